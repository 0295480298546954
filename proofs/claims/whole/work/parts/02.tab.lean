/-! the abstract machine: its tables, written by a program out of the words of tables_1 -/
def am_F0 : u_T := fun k => match k with
  | 0 => ("PaperRiver$Bed", "cells", "I", false)
  | 1 => ("PaperRiver$Bed", "mills", "I", false)
  | 2 => ("PaperRiver$Bed", "dams", "I", false)
  | 3 => ("PaperRiver$Bed", "flow", "[I", true)
  | 4 => ("PaperRiver$Bed", "eddy", "[I", true)
  | 5 => ("PaperRiver$Bed", "millAt", "[I", true)
  | 6 => ("PaperRiver$Bed", "damAt", "[I", true)
  | _ => ("PaperRiver$Bed", "millLetter", "[I", true)
def am_y0 : Nat → FieldType := fun k => match k with
  | 0 => .int
  | 1 => .int
  | 2 => .int
  | 3 => (.array .int)
  | 4 => (.array .int)
  | 5 => (.array .int)
  | 6 => (.array .int)
  | _ => (.array .int)
def am_F1 : u_T := fun k => match k with
  | _ => ("PaperRiver$Law", "code", "[I", true)
def am_y1 : Nat → FieldType := fun k => match k with
  | _ => (.array .int)
def am_F2 : u_T := fun k => match k with
  | 0 => ("PaperRiver$NetSearch", "touched", "[I", true)
  | _ => ("PaperRiver$NetSearch", "rested", "I", false)
def am_y2 : Nat → FieldType := fun k => match k with
  | 0 => (.array .int)
  | _ => .int
def am_F3 : u_T := fun k => match k with
  | 0 => ("PaperRiver$Orders", "members", "[I", true)
  | 1 => ("PaperRiver$Orders", "firsts", "[I", true)
  | 2 => ("PaperRiver$Orders", "lasts", "[I", true)
  | 3 => ("PaperRiver$Orders", "ways", "[I", true)
  | _ => ("PaperRiver$Orders", "size", "I", false)
def am_y3 : Nat → FieldType := fun k => match k with
  | 0 => (.array .int)
  | 1 => (.array .int)
  | 2 => (.array .int)
  | 3 => (.array .int)
  | _ => .int
def am_F4 : u_T := fun k => match k with
  | 0 => ("PaperRiver$Past", "waters", "[LPaperRiver$Water;", true)
  | 1 => ("PaperRiver$Past", "oldest", "I", false)
  | _ => ("PaperRiver$Past", "kept", "I", false)
def am_y4 : Nat → FieldType := fun k => match k with
  | 0 => (.array (.object "PaperRiver$Water"))
  | 1 => .int
  | _ => .int
def am_F5 : u_T := fun k => match k with
  | 0 => ("PaperRiver$RiverText", "bed", "LPaperRiver$Bed;", true)
  | _ => ("PaperRiver$RiverText", "water", "LPaperRiver$Water;", true)
def am_y5 : Nat → FieldType := fun k => match k with
  | 0 => (.object "PaperRiver$Bed")
  | _ => (.object "PaperRiver$Water")
def am_F6 : u_T := fun k => match k with
  | 0 => ("PaperRiver$RuleText", "code", "[I", true)
  | 1 => ("PaperRiver$RuleText", "length", "I", false)
  | _ => ("PaperRiver$RuleText", "pieces", "I", false)
def am_y6 : Nat → FieldType := fun k => match k with
  | 0 => (.array .int)
  | 1 => .int
  | _ => .int
def am_F7 : u_T := fun k => match k with
  | 0 => ("PaperRiver$Stream", "look", "LPaperRiver$Water;", true)
  | 1 => ("PaperRiver$Stream", "words", "[J", true)
  | 2 => ("PaperRiver$Stream", "stack", "[J", true)
  | 3 => ("PaperRiver$Stream", "bed", "LPaperRiver$Bed;", false)
  | 4 => ("PaperRiver$Stream", "water", "LPaperRiver$Water;", false)
  | 5 => ("PaperRiver$Stream", "law", "LPaperRiver$Law;", false)
  | 6 => ("PaperRiver$Stream", "toSea", "I", false)
  | 7 => ("PaperRiver$Stream", "toNets", "I", false)
  | _ => ("PaperRiver$Stream", "toOthers", "I", false)
def am_y7 : Nat → FieldType := fun k => match k with
  | 0 => (.object "PaperRiver$Water")
  | 1 => (.array .long)
  | 2 => (.array .long)
  | 3 => (.object "PaperRiver$Bed")
  | 4 => (.object "PaperRiver$Water")
  | 5 => (.object "PaperRiver$Law")
  | 6 => .int
  | 7 => .int
  | _ => .int
def am_F8 : u_T := fun k => match k with
  | 0 => ("PaperRiver$Tape", "bytes", "[I", true)
  | 1 => ("PaperRiver$Tape", "length", "I", false)
  | 2 => ("PaperRiver$Tape", "at", "I", false)
  | 3 => ("PaperRiver$Tape", "mark", "I", false)
  | _ => ("PaperRiver$Tape", "fault", "I", false)
def am_y8 : Nat → FieldType := fun k => match k with
  | 0 => (.array .int)
  | 1 => .int
  | 2 => .int
  | 3 => .int
  | _ => .int
def am_F9 : u_T := fun k => match k with
  | 0 => ("PaperRiver$Water", "today", "I", false)
  | 1 => ("PaperRiver$Water", "scraps", "I", false)
  | 2 => ("PaperRiver$Water", "shut", "I", false)
  | 3 => ("PaperRiver$Water", "place", "[I", true)
  | 4 => ("PaperRiver$Water", "text", "[I", true)
  | 5 => ("PaperRiver$Water", "size", "[I", true)
  | 6 => ("PaperRiver$Water", "kinds", "[I", true)
  | 7 => ("PaperRiver$Water", "wait", "[I", true)
  | 8 => ("PaperRiver$Water", "fate", "[I", true)
  | 9 => ("PaperRiver$Water", "holder", "[I", true)
  | 10 => ("PaperRiver$Water", "leftOn", "[I", true)
  | 11 => ("PaperRiver$Water", "mesh", "[I", true)
  | _ => ("PaperRiver$Water", "printed", "[I", true)
def am_y9 : Nat → FieldType := fun k => match k with
  | 0 => .int
  | 1 => .int
  | 2 => .int
  | 3 => (.array .int)
  | 4 => (.array .int)
  | 5 => (.array .int)
  | 6 => (.array .int)
  | 7 => (.array .int)
  | 8 => (.array .int)
  | 9 => (.array .int)
  | 10 => (.array .int)
  | 11 => (.array .int)
  | _ => (.array .int)
def am_F10 : u_T := fun k => match k with
  | 0 => ("PaperRiver$World", "bed", "LPaperRiver$Bed;", true)
  | 1 => ("PaperRiver$World", "water", "LPaperRiver$Water;", true)
  | 2 => ("PaperRiver$World", "past", "LPaperRiver$Past;", true)
  | 3 => ("PaperRiver$World", "inForce", "I", false)
  | _ => ("PaperRiver$World", "seedling", "I", false)
def am_y10 : Nat → FieldType := fun k => match k with
  | 0 => (.object "PaperRiver$Bed")
  | 1 => (.object "PaperRiver$Water")
  | 2 => (.object "PaperRiver$Past")
  | 3 => .int
  | _ => .int
def am_F11 : u_T := fun k => match k with
  | 0 => ("PaperRiver", "tape", "LPaperRiver$Tape;", true)
  | 1 => ("PaperRiver", "riverText", "LPaperRiver$RiverText;", true)
  | 2 => ("PaperRiver", "ruleText", "LPaperRiver$RuleText;", true)
  | 3 => ("PaperRiver", "laws", "[LPaperRiver$Law;", true)
  | 4 => ("PaperRiver", "lawCount", "I", false)
  | 5 => ("PaperRiver", "now", "LPaperRiver$World;", true)
  | 6 => ("PaperRiver", "images", "[LPaperRiver$World;", true)
  | 7 => ("PaperRiver", "stream", "LPaperRiver$Stream;", true)
  | 8 => ("PaperRiver", "netSearch", "LPaperRiver$NetSearch;", true)
  | _ => ("PaperRiver", "orders", "LPaperRiver$Orders;", true)
def am_y11 : Nat → FieldType := fun k => match k with
  | 0 => (.object "PaperRiver$Tape")
  | 1 => (.object "PaperRiver$RiverText")
  | 2 => (.object "PaperRiver$RuleText")
  | 3 => (.array (.object "PaperRiver$Law"))
  | 4 => .int
  | 5 => (.object "PaperRiver$World")
  | 6 => (.array (.object "PaperRiver$World"))
  | 7 => (.object "PaperRiver$Stream")
  | 8 => (.object "PaperRiver$NetSearch")
  | _ => (.object "PaperRiver$Orders")
def am_F12 : u_T := fun k => match k with
  | 0 => ("PaperRiverModel", "thrown", "I", false)
  | 1 => ("PaperRiverModel", "scalar", "[I", true)
  | 2 => ("PaperRiverModel", "flow", "[I", true)
  | 3 => ("PaperRiverModel", "eddy", "[I", true)
  | 4 => ("PaperRiverModel", "millAt", "[I", true)
  | 5 => ("PaperRiverModel", "prints", "[I", true)
  | 6 => ("PaperRiverModel", "printed", "[I", true)
  | 7 => ("PaperRiverModel", "damAt", "[I", true)
  | 8 => ("PaperRiverModel", "netAt", "[I", true)
  | 9 => ("PaperRiverModel", "mesh", "[I", true)
  | 10 => ("PaperRiverModel", "at", "[I", true)
  | 11 => ("PaperRiverModel", "text", "[I", true)
  | 12 => ("PaperRiverModel", "wait", "[I", true)
  | 13 => ("PaperRiverModel", "fate", "[I", true)
  | 14 => ("PaperRiverModel", "by", "[I", true)
  | 15 => ("PaperRiverModel", "left", "[I", true)
  | 16 => ("PaperRiverModel", "newScalar", "[I", true)
  | 17 => ("PaperRiverModel", "newFlow", "[I", true)
  | 18 => ("PaperRiverModel", "newEddy", "[I", true)
  | 19 => ("PaperRiverModel", "newMillAt", "[I", true)
  | 20 => ("PaperRiverModel", "newPrints", "[I", true)
  | 21 => ("PaperRiverModel", "newDamAt", "[I", true)
  | 22 => ("PaperRiverModel", "newNetAt", "[I", true)
  | 23 => ("PaperRiverModel", "newMesh", "[I", true)
  | 24 => ("PaperRiverModel", "newAt", "[I", true)
  | 25 => ("PaperRiverModel", "newText", "[I", true)
  | 26 => ("PaperRiverModel", "taped", "I", false)
  | 27 => ("PaperRiverModel", "p", "I", false)
  | 28 => ("PaperRiverModel", "fault", "I", false)
  | 29 => ("PaperRiverModel", "slot", "I", false)
  | 30 => ("PaperRiverModel", "rules", "I", false)
  | 31 => ("PaperRiverModel", "entries", "I", false)
  | 32 => ("PaperRiverModel", "deep", "I", false)
  | 33 => ("PaperRiverModel", "counted", "I", false)
  | 34 => ("PaperRiverModel", "opened", "I", false)
  | 35 => ("PaperRiverModel", "words", "I", false)
  | 36 => ("PaperRiverModel", "tape", "[B", true)
  | 37 => ("PaperRiverModel", "sort", "[I", true)
  | 38 => ("PaperRiverModel", "number", "[I", true)
  | 39 => ("PaperRiverModel", "clauses", "[I", true)
  | 40 => ("PaperRiverModel", "testAt", "[I", true)
  | 41 => ("PaperRiverModel", "endAt", "[I", true)
  | 42 => ("PaperRiverModel", "open", "[I", true)
  | 43 => ("PaperRiverModel", "asked", "[J", true)
  | 44 => ("PaperRiverModel", "stack", "[J", true)
  | 45 => ("PaperRiverModel", "past", "[I", true)
  | 46 => ("PaperRiverModel", "ring", "[I", true)
  | 47 => ("PaperRiverModel", "pastMany", "I", false)
  | 48 => ("PaperRiverModel", "pastAt", "I", false)
  | 49 => ("PaperRiverModel", "takesBack", "Z", false)
  | 50 => ("PaperRiverModel", "row", "[I", true)
  | 51 => ("PaperRiverModel", "firstRow", "[I", true)
  | 52 => ("PaperRiverModel", "path", "[I", true)
  | 53 => ("PaperRiverModel", "pathMany", "I", false)
  | 54 => ("PaperRiverModel", "images", "[I", true)
  | 55 => ("PaperRiverModel", "isMade", "[Z", true)
  | 56 => ("PaperRiverModel", "imageAt", "I", false)
  | _ => ("PaperRiverModel", "goesBack", "Z", false)
def am_y12 : Nat → FieldType := fun k => match k with
  | 0 => .int
  | 1 => (.array .int)
  | 2 => (.array .int)
  | 3 => (.array .int)
  | 4 => (.array .int)
  | 5 => (.array .int)
  | 6 => (.array .int)
  | 7 => (.array .int)
  | 8 => (.array .int)
  | 9 => (.array .int)
  | 10 => (.array .int)
  | 11 => (.array .int)
  | 12 => (.array .int)
  | 13 => (.array .int)
  | 14 => (.array .int)
  | 15 => (.array .int)
  | 16 => (.array .int)
  | 17 => (.array .int)
  | 18 => (.array .int)
  | 19 => (.array .int)
  | 20 => (.array .int)
  | 21 => (.array .int)
  | 22 => (.array .int)
  | 23 => (.array .int)
  | 24 => (.array .int)
  | 25 => (.array .int)
  | 26 => .int
  | 27 => .int
  | 28 => .int
  | 29 => .int
  | 30 => .int
  | 31 => .int
  | 32 => .int
  | 33 => .int
  | 34 => .int
  | 35 => .int
  | 36 => (.array .byte)
  | 37 => (.array .int)
  | 38 => (.array .int)
  | 39 => (.array .int)
  | 40 => (.array .int)
  | 41 => (.array .int)
  | 42 => (.array .int)
  | 43 => (.array .long)
  | 44 => (.array .long)
  | 45 => (.array .int)
  | 46 => (.array .int)
  | 47 => .int
  | 48 => .int
  | 49 => .boolean
  | 50 => (.array .int)
  | 51 => (.array .int)
  | 52 => (.array .int)
  | 53 => .int
  | 54 => (.array .int)
  | 55 => (.array .boolean)
  | 56 => .int
  | _ => .boolean
/-- the classes whose objects the machine makes -/
def am_cl : List vw_C := [("PaperRiver$Bed", am_F0, 8), ("PaperRiver$Law", am_F1, 1), ("PaperRiver$NetSearch", am_F2, 2), ("PaperRiver$Orders", am_F3, 5), ("PaperRiver$Past", am_F4, 3), ("PaperRiver$RiverText", am_F5, 2), ("PaperRiver$RuleText", am_F6, 3), ("PaperRiver$Stream", am_F7, 9), ("PaperRiver$Tape", am_F8, 5), ("PaperRiver$Water", am_F9, 13), ("PaperRiver$World", am_F10, 5), ("PaperRiver", am_F11, 10), ("PaperRiverModel", am_F12, 58)]
/-- what the fields hold, by their types -/
def am_yl : List (Nat → FieldType) := [am_y0, am_y1, am_y2, am_y3, am_y4, am_y5, am_y6, am_y7, am_y8, am_y9, am_y10, am_y11, am_y12]
/-- names of classes by number -/
def am_cn : List String := ["PaperRiver$Bed", "PaperRiver$Law", "PaperRiver$NetSearch", "PaperRiver$Orders", "PaperRiver$Past", "PaperRiver$RiverText", "PaperRiver$RuleText", "PaperRiver$Stream", "PaperRiver$Tape", "PaperRiver$Water", "PaperRiver$World", "PaperRiver", "PaperRiverModel", "java/lang/String", "java/lang/StringLatin1", "java/lang/Integer", "java/lang/Math", "java/util/Arrays", "PaperRiverLaw", "java/lang/StringUTF16", "java/lang/Object", "jdk/internal/util/Preconditions"]
/-- array kinds -/
def am_tl : List FieldType := [.int, .long, .byte, .boolean, .object "PaperRiver$Law", .object "PaperRiver$Water", .object "PaperRiver$World"]
/-- field links: a class of its own, index, (class, field) -/
def am_ft : List (List (Nat × Nat × Nat)) := [
  [(9, 0, 0), (15, 0, 1), (18, 0, 2), (21, 0, 3), (25, 0, 4), (28, 0, 5), (31, 0, 6), (34, 0, 7)],
  [(7, 1, 0)],
  [(25, 0, 0), (87, 9, 1), (34, 9, 11), (19, 10, 0), (30, 10, 1), (76, 7, 4), (11, 2, 0), (15, 2, 1)],
  [(28, 9, 1), (9, 3, 0), (15, 3, 1), (18, 3, 2), (21, 3, 3), (24, 3, 4)],
  [(11, 4, 0), (17, 4, 1), (21, 4, 2)],
  [(58, 8, 3), (44, 8, 4), (76, 0, 0), (120, 0, 1), (123, 0, 2), (94, 0, 3), (98, 0, 4), (114, 0, 5), (117, 0, 6), (130, 9, 1), (108, 9, 11), (12, 5, 0), (21, 5, 1)],
  [(101, 8, 0), (100, 8, 1), (77, 8, 2), (44, 8, 3), (63, 8, 4), (9, 6, 0), (15, 6, 1), (19, 6, 2)],
  [(115, 0, 3), (122, 0, 4), (125, 0, 5), (104, 0, 6), (131, 0, 7), (71, 9, 0), (88, 9, 1), (109, 9, 2), (80, 9, 3), (128, 9, 5), (162, 9, 6), (112, 9, 7), (91, 9, 8), (169, 9, 11), (138, 9, 12), (55, 10, 0), (48, 10, 1), (12, 7, 0), (20, 7, 1), (24, 7, 2), (27, 7, 3), (31, 7, 4), (34, 7, 5), (38, 7, 6), (42, 7, 7), (45, 7, 8)],
  [(9, 8, 0), (15, 8, 1), (19, 8, 2), (22, 8, 3), (25, 8, 4)],
  [(9, 9, 0), (15, 9, 1), (18, 9, 2), (21, 9, 3), (25, 9, 4), (28, 9, 5), (31, 9, 6), (34, 9, 7), (37, 9, 8), (40, 9, 9), (43, 9, 10), (46, 9, 11), (49, 9, 12)],
  [(12, 10, 0), (21, 10, 1), (28, 10, 2), (32, 10, 3), (36, 10, 4)],
  [(72, 8, 1), (257, 0, 0), (289, 0, 1), (277, 0, 2), (128, 0, 3), (132, 0, 4), (218, 0, 6), (173, 9, 0), (113, 9, 1), (215, 9, 2), (151, 9, 3), (154, 9, 4), (205, 9, 5), (157, 9, 7), (160, 9, 8), (163, 9, 9), (166, 9, 10), (142, 9, 11), (295, 9, 12), (87, 5, 0), (98, 5, 1), (225, 4, 2), (83, 10, 0), (94, 10, 1), (104, 10, 2), (121, 10, 3), (301, 10, 4), (238, 7, 4), (189, 7, 6), (192, 7, 7), (195, 7, 8), (12, 11, 0), (19, 11, 1), (26, 11, 2), (32, 11, 3), (36, 11, 4), (43, 11, 5), (47, 11, 6), (54, 11, 7), (61, 11, 8), (68, 11, 9)],
  [(9, 12, 1), (13, 12, 2), (16, 12, 3), (19, 12, 4), (22, 12, 5), (25, 12, 6), (28, 12, 7), (31, 12, 8), (34, 12, 9), (37, 12, 10), (40, 12, 11), (43, 12, 12), (46, 12, 13), (49, 12, 14), (52, 12, 15), (55, 12, 16), (58, 12, 17), (61, 12, 18), (64, 12, 19), (67, 12, 20), (70, 12, 21), (73, 12, 22), (76, 12, 23), (79, 12, 24), (82, 12, 25), (157, 12, 26), (188, 12, 27), (185, 12, 28), (215, 12, 29), (354, 12, 30), (218, 12, 31), (258, 12, 32), (221, 12, 33), (255, 12, 34), (85, 12, 35), (89, 12, 36), (93, 12, 37), (96, 12, 38), (99, 12, 39), (102, 12, 40), (105, 12, 41), (108, 12, 42), (111, 12, 43), (115, 12, 44), (118, 12, 45), (121, 12, 46), (346, 12, 47), (443, 12, 48), (439, 12, 49), (124, 12, 50), (127, 12, 51), (130, 12, 52), (508, 12, 53), (133, 12, 54), (136, 12, 55), (544, 12, 56), (541, 12, 57)],
  [(9, 13, 0), (15, 13, 1)],
  [],
  [],
  [],
  [],
  [],
  [],
  [],
  []]
/-- where these words stand -/
def am_ftp : List (List (Nat × Nat × Nat × Nat)) := [
  [(9, 0, 0, 180), (15, 0, 1, 184), (18, 0, 2, 187), (21, 0, 3, 190), (25, 0, 4, 194), (28, 0, 5, 198), (31, 0, 6, 201), (34, 0, 7, 205)],
  [(7, 1, 0, 758)],
  [(25, 0, 0, 181), (87, 9, 1, 237), (34, 9, 11, 263), (19, 10, 0, 354), (30, 10, 1, 358), (76, 7, 4, 392), (11, 2, 0, 427), (15, 2, 1, 428)],
  [(28, 9, 1, 234), (9, 3, 0, 440), (15, 3, 1, 441), (18, 3, 2, 442), (21, 3, 3, 443), (24, 3, 4, 444)],
  [(11, 4, 0, 342), (17, 4, 1, 343), (21, 4, 2, 344)],
  [(58, 8, 3, 152), (44, 8, 4, 154), (76, 0, 0, 182), (120, 0, 1, 185), (123, 0, 2, 188), (94, 0, 3, 191), (98, 0, 4, 195), (114, 0, 5, 199), (117, 0, 6, 202), (130, 9, 1, 238), (108, 9, 11, 265), (12, 5, 0, 297), (21, 5, 1, 299)],
  [(101, 8, 0, 144), (100, 8, 1, 147), (77, 8, 2, 149), (44, 8, 3, 151), (63, 8, 4, 155), (9, 6, 0, 312), (15, 6, 1, 313), (19, 6, 2, 314)],
  [(115, 0, 3, 193), (122, 0, 4, 197), (125, 0, 5, 200), (104, 0, 6, 203), (131, 0, 7, 206), (71, 9, 0, 231), (88, 9, 1, 236), (109, 9, 2, 240), (80, 9, 3, 243), (128, 9, 5, 248), (162, 9, 6, 251), (112, 9, 7, 254), (91, 9, 8, 256), (169, 9, 11, 266), (138, 9, 12, 268), (55, 10, 0, 355), (48, 10, 1, 359), (12, 7, 0, 387), (20, 7, 1, 388), (24, 7, 2, 389), (27, 7, 3, 390), (31, 7, 4, 391), (34, 7, 5, 394), (38, 7, 6, 395), (42, 7, 7, 397), (45, 7, 8, 399)],
  [(9, 8, 0, 143), (15, 8, 1, 145), (19, 8, 2, 148), (22, 8, 3, 150), (25, 8, 4, 153)],
  [(9, 9, 0, 230), (15, 9, 1, 233), (18, 9, 2, 239), (21, 9, 3, 242), (25, 9, 4, 245), (28, 9, 5, 247), (31, 9, 6, 250), (34, 9, 7, 252), (37, 9, 8, 255), (40, 9, 9, 258), (43, 9, 10, 260), (46, 9, 11, 262), (49, 9, 12, 267)],
  [(12, 10, 0, 353), (21, 10, 1, 357), (28, 10, 2, 361), (32, 10, 3, 363), (36, 10, 4, 365)],
  [(72, 8, 1, 146), (257, 0, 0, 183), (289, 0, 1, 186), (277, 0, 2, 189), (128, 0, 3, 192), (132, 0, 4, 196), (218, 0, 6, 204), (173, 9, 0, 232), (113, 9, 1, 235), (215, 9, 2, 241), (151, 9, 3, 244), (154, 9, 4, 246), (205, 9, 5, 249), (157, 9, 7, 253), (160, 9, 8, 257), (163, 9, 9, 259), (166, 9, 10, 261), (142, 9, 11, 264), (295, 9, 12, 269), (87, 5, 0, 298), (98, 5, 1, 300), (225, 4, 2, 345), (83, 10, 0, 356), (94, 10, 1, 360), (104, 10, 2, 362), (121, 10, 3, 364), (301, 10, 4, 366), (238, 7, 4, 393), (189, 7, 6, 396), (192, 7, 7, 398), (195, 7, 8, 400), (12, 11, 0, 456), (19, 11, 1, 457), (26, 11, 2, 458), (32, 11, 3, 459), (36, 11, 4, 460), (43, 11, 5, 461), (47, 11, 6, 462), (54, 11, 7, 463), (61, 11, 8, 464), (68, 11, 9, 465)],
  [(9, 12, 1, 1113), (13, 12, 2, 1114), (16, 12, 3, 1115), (19, 12, 4, 1116), (22, 12, 5, 1117), (25, 12, 6, 1118), (28, 12, 7, 1119), (31, 12, 8, 1120), (34, 12, 9, 1121), (37, 12, 10, 1122), (40, 12, 11, 1123), (43, 12, 12, 1124), (46, 12, 13, 1125), (49, 12, 14, 1126), (52, 12, 15, 1127), (55, 12, 16, 1128), (58, 12, 17, 1129), (61, 12, 18, 1130), (64, 12, 19, 1131), (67, 12, 20, 1132), (70, 12, 21, 1133), (73, 12, 22, 1134), (76, 12, 23, 1135), (79, 12, 24, 1136), (82, 12, 25, 1137), (157, 12, 26, 1138), (188, 12, 27, 1139), (185, 12, 28, 1140), (215, 12, 29, 1141), (354, 12, 30, 1142), (218, 12, 31, 1143), (258, 12, 32, 1144), (221, 12, 33, 1145), (255, 12, 34, 1146), (85, 12, 35, 1147), (89, 12, 36, 1148), (93, 12, 37, 1149), (96, 12, 38, 1150), (99, 12, 39, 1151), (102, 12, 40, 1152), (105, 12, 41, 1153), (108, 12, 42, 1154), (111, 12, 43, 1155), (115, 12, 44, 1156), (118, 12, 45, 1157), (121, 12, 46, 1158), (346, 12, 47, 1159), (443, 12, 48, 1160), (439, 12, 49, 1161), (124, 12, 50, 1162), (127, 12, 51, 1163), (130, 12, 52, 1164), (508, 12, 53, 1165), (133, 12, 54, 1166), (136, 12, 55, 1167), (544, 12, 56, 1168), (541, 12, 57, 1169)],
  [(9, 13, 0, 1768), (15, 13, 1, 1769)],
  [],
  [],
  [],
  [],
  [],
  [],
  [],
  []]
/-- static fields: class of its own, index, value -/
def am_sf : List (List (Nat × Value)) := [
  [],
  [],
  [],
  [],
  [],
  [],
  [],
  [],
  [],
  [(68, .ref 1)],
  [],
  [(208, .ref 1)],
  [],
  [(38, .int 1), (1053, .retAddr 0)],
  [],
  [],
  [],
  [],
  [],
  [],
  [],
  []]
/-- constants: class of its own, index, value; a text is its place -/
def am_kt : List (List (Nat × Value)) := [
  [],
  [],
  [(61, .int (65536))],
  [],
  [],
  [(48, .ref 2)],
  [(38, .ref 4), (87, .ref 6), (117, .ref 8), (69, .ref 10), (75, .ref 12)],
  [],
  [],
  [],
  [],
  [(322, .int (65536)), (316, .long (1103515245)), (318, .long (12345)), (320, .long (2147483648))],
  [(232, .int (99999)), (532, .int (65536)), (195, .long (48)), (197, .long (57)), (289, .long (97)), (291, .long (122)), (360, .long (-1)), (155, .long (6)), (473, .long (8)), (484, .long (60)), (486, .long (2)), (503, .long (12)), (533, .long (10)), (526, .long (1103515245)), (528, .long (12345)), (530, .long (2147483648)), (550, .long (3)), (293, .ref 14), (295, .ref 16), (296, .ref 18), (298, .ref 20), (299, .ref 22), (301, .ref 24), (303, .ref 26), (305, .ref 28), (349, .ref 30), (264, .ref 32), (164, .ref 34), (166, .ref 36), (168, .ref 38), (170, .ref 40), (172, .ref 42), (174, .ref 44), (176, .ref 46), (178, .ref 48), (180, .ref 50), (182, .ref 52), (184, .ref 54), (278, .ref 56), (280, .ref 58)],
  [],
  [],
  [(265, .int (1431655765)), (266, .int (858993459)), (267, .int (252645135)), (264, .int (65536))],
  [],
  [],
  [],
  [],
  [],
  []]
/-- the texts: class of its own, index, text, place -/
def am_sr : List (String × Nat × String × Nat) := [("PaperRiver$RiverText", 48, "river flow mouth eddy mill dam net scrap", 2), ("PaperRiver$RuleText", 38, "join", 4), ("PaperRiver$RuleText", 87, "not", 6), ("PaperRiver$RuleText", 117, "long other last first same cell day one later many wait", 8), ("PaperRiver$RuleText", 69, "and", 10), ("PaperRiver$RuleText", 75, "or", 12), ("PaperRiverModel", 293, "river", 14), ("PaperRiverModel", 295, "flow", 16), ("PaperRiverModel", 296, "mouth", 18), ("PaperRiverModel", 298, "eddy", 20), ("PaperRiverModel", 299, "mill", 22), ("PaperRiverModel", 301, "dam", 24), ("PaperRiverModel", 303, "net", 26), ("PaperRiverModel", 305, "scrap", 28), ("PaperRiverModel", 349, "join", 30), ("PaperRiverModel", 264, "not", 32), ("PaperRiverModel", 164, "long", 34), ("PaperRiverModel", 166, "other", 36), ("PaperRiverModel", 168, "last", 38), ("PaperRiverModel", 170, "first", 40), ("PaperRiverModel", 172, "same", 42), ("PaperRiverModel", 174, "cell", 44), ("PaperRiverModel", 176, "day", 46), ("PaperRiverModel", 178, "one", 48), ("PaperRiverModel", 180, "later", 50), ("PaperRiverModel", 182, "many", 52), ("PaperRiverModel", 184, "wait", 54), ("PaperRiverModel", 278, "and", 56), ("PaperRiverModel", 280, "or", 58)]
def am_tx : List (List Int32) := [[114, 105, 118, 101, 114, 32, 102, 108, 111, 119, 32, 109, 111, 117, 116, 104, 32, 101, 100, 100, 121, 32, 109, 105, 108, 108, 32, 100, 97, 109, 32, 110, 101, 116, 32, 115, 99, 114, 97, 112], [106, 111, 105, 110], [110, 111, 116], [108, 111, 110, 103, 32, 111, 116, 104, 101, 114, 32, 108, 97, 115, 116, 32, 102, 105, 114, 115, 116, 32, 115, 97, 109, 101, 32, 99, 101, 108, 108, 32, 100, 97, 121, 32, 111, 110, 101, 32, 108, 97, 116, 101, 114, 32, 109, 97, 110, 121, 32, 119, 97, 105, 116], [97, 110, 100], [111, 114], [114, 105, 118, 101, 114], [102, 108, 111, 119], [109, 111, 117, 116, 104], [101, 100, 100, 121], [109, 105, 108, 108], [100, 97, 109], [110, 101, 116], [115, 99, 114, 97, 112], [106, 111, 105, 110], [110, 111, 116], [108, 111, 110, 103], [111, 116, 104, 101, 114], [108, 97, 115, 116], [102, 105, 114, 115, 116], [115, 97, 109, 101], [99, 101, 108, 108], [100, 97, 121], [111, 110, 101], [108, 97, 116, 101, 114], [109, 97, 110, 121], [119, 97, 105, 116], [97, 110, 100], [111, 114]]
/-- class links: class of its own, index, class -/
def am_ct : List (List (Nat × Nat)) := [
  [],
  [],
  [],
  [],
  [(9, 9)],
  [(9, 0), (18, 9)],
  [(22, 1)],
  [(9, 9)],
  [],
  [],
  [(9, 0), (18, 9), (25, 4)],
  [(9, 8), (16, 5), (23, 6), (30, 1), (40, 10), (51, 7), (58, 2), (65, 3)],
  [],
  [],
  [],
  [],
  [],
  [],
  [(7, 11), (10, 12)],
  [],
  [],
  []]
/-- the methods: class, bytes, locals, what it returns, what it takes off the stack -/
def am_md : List (Nat × ByteArray × Nat × Option FieldType × Nat) := [
  (11, prog_1_method_1_code, 1, none, 1),
  (20, object_method_1_code, 1, none, 1),
  (8, prog_10_method_1_code, 1, none, 1),
  (5, prog_7_method_1_code, 1, none, 1),
  (0, prog_2_method_1_code, 1, none, 1),
  (9, prog_11_method_1_code, 1, none, 1),
  (6, prog_8_method_1_code, 1, none, 1),
  (10, prog_12_method_1_code, 1, none, 1),
  (4, prog_6_method_1_code, 1, none, 1),
  (7, prog_9_method_1_code, 1, none, 1),
  (2, prog_4_method_1_code, 1, none, 1),
  (3, prog_5_method_1_code, 1, none, 1),
  (11, prog_1_method_2_code, 6, some .int, 6),
  (8, prog_10_method_2_code, 3, none, 2),
  (11, prog_1_method_3_code, 2, some .int, 2),
  (11, prog_1_method_4_code, 2, some .int, 1),
  (5, prog_7_method_2_code, 3, some .int, 2),
  (8, prog_10_method_3_code, 1, none, 1),
  (0, prog_2_method_2_code, 3, none, 2),
  (9, prog_11_method_2_code, 1, none, 1),
  (17, prog_22_method_103_code, 4, none, 2),
  (5, prog_7_method_3_code, 4, some .boolean, 3),
  (8, prog_10_method_11_code, 5, some .int, 2),
  (8, prog_10_method_6_code, 1, some .int, 1),
  (13, prog_18_method_54_code, 1, some .int, 1),
  (13, prog_18_method_152_code, 1, some .byte, 1),
  (13, prog_18_method_56_code, 2, some .char, 2),
  (13, prog_18_method_154_code, 1, some .boolean, 1),
  (14, prog_19_method_2_code, 2, some .char, 2),
  (13, prog_18_method_155_code, 2, none, 2),
  (21, prog_23_method_11_code, 3, some .int, 3),
  (19, prog_20_method_83_code, 2, some .char, 2),
  (19, prog_20_method_91_code, 2, none, 2),
  (19, prog_20_method_6_code, 1, some .int, 1),
  (19, prog_20_method_5_code, 2, some .char, 2),
  (8, prog_10_method_13_code, 6, some .boolean, 4),
  (8, prog_10_method_4_code, 3, some .boolean, 3),
  (5, prog_7_method_9_code, 2, some .boolean, 2),
  (9, prog_11_method_15_code, 3, some .int, 1),
  (5, prog_7_method_4_code, 3, some .boolean, 2),
  (8, prog_10_method_9_code, 4, some .int, 3),
  (8, prog_10_method_8_code, 3, some .int, 1),
  (5, prog_7_method_5_code, 5, some .boolean, 3),
  (5, prog_7_method_8_code, 3, some .boolean, 3),
  (5, prog_7_method_6_code, 3, some .int, 3),
  (8, prog_10_method_10_code, 4, some .int, 2),
  (8, prog_10_method_5_code, 2, some .boolean, 2),
  (5, prog_7_method_7_code, 4, none, 4),
  (0, prog_2_method_4_code, 3, none, 3),
  (0, prog_2_method_5_code, 2, none, 2),
  (9, prog_11_method_4_code, 4, some .int, 3),
  (9, prog_11_method_5_code, 5, none, 3),
  (8, prog_10_method_7_code, 2, some .boolean, 1),
  (0, prog_2_method_3_code, 2, none, 2),
  (9, prog_11_method_3_code, 2, none, 2),
  (4, prog_6_method_2_code, 1, none, 1),
  (11, prog_1_method_5_code, 2, some .int, 1),
  (6, prog_8_method_3_code, 3, some .int, 2),
  (6, prog_8_method_6_code, 6, some .boolean, 3),
  (6, prog_8_method_7_code, 4, some .boolean, 3),
  (6, prog_8_method_8_code, 3, some .boolean, 3),
  (8, prog_10_method_12_code, 2, some .boolean, 2),
  (6, prog_8_method_4_code, 2, none, 2),
  (6, prog_8_method_10_code, 5, some .boolean, 2),
  (6, prog_8_method_13_code, 5, some .boolean, 2),
  (6, prog_8_method_5_code, 3, some .boolean, 3),
  (6, prog_8_method_11_code, 1, some .int, 1),
  (6, prog_8_method_12_code, 1, some .int, 1),
  (6, prog_8_method_9_code, 5, some .int, 2),
  (6, prog_8_method_2_code, 1, some (.object "PaperRiver$Law"), 1),
  (17, prog_22_method_123_code, 3, some (.array .int), 2),
  (16, prog_17_method_69_code, 2, some .int, 2),
  (1, prog_3_method_1_code, 2, none, 2),
  (11, prog_1_method_6_code, 3, some .int, 2),
  (11, prog_1_method_7_code, 3, some .int, 3),
  (11, prog_1_method_30_code, 2, some .boolean, 2),
  (0, prog_2_method_6_code, 3, some .int, 2),
  (11, prog_1_method_34_code, 3, some .int, 2),
  (9, prog_11_method_11_code, 4, some .int, 2),
  (11, prog_1_method_8_code, 4, some .int, 3),
  (11, prog_1_method_31_code, 2, some .boolean, 2),
  (11, prog_1_method_9_code, 1, some .int, 1),
  (11, prog_1_method_29_code, 1, some .boolean, 1),
  (4, prog_6_method_3_code, 3, none, 2),
  (11, prog_1_method_33_code, 1, some (.object "PaperRiver$Law"), 1),
  (7, prog_9_method_2_code, 4, none, 4),
  (7, prog_9_method_8_code, 5, none, 1),
  (7, prog_9_method_9_code, 6, none, 2),
  (9, prog_11_method_8_code, 4, none, 4),
  (9, prog_11_method_6_code, 3, none, 3),
  (9, prog_11_method_13_code, 6, some .int, 2),
  (7, prog_9_method_10_code, 5, some .boolean, 2),
  (15, prog_16_method_49_code, 1, some .int, 1),
  (7, prog_9_method_11_code, 4, some .boolean, 4),
  (9, prog_11_method_10_code, 2, some .int, 2),
  (9, prog_11_method_9_code, 3, some .int, 2),
  (1, prog_3_method_2_code, 6, some .boolean, 3),
  (1, prog_3_method_3_code, 5, some .long, 3),
  (9, prog_11_method_7_code, 3, none, 3),
  (7, prog_9_method_12_code, 3, none, 1),
  (7, prog_9_method_5_code, 2, none, 2),
  (11, prog_1_method_10_code, 3, some .int, 3),
  (11, prog_1_method_35_code, 4, some .int, 1),
  (11, prog_1_method_11_code, 6, some .int, 2),
  (11, prog_1_method_12_code, 4, some .boolean, 3),
  (11, prog_1_method_13_code, 4, some .int, 3),
  (11, prog_1_method_14_code, 1, some .int, 1),
  (4, prog_6_method_4_code, 3, none, 2),
  (11, prog_1_method_15_code, 5, some .int, 4),
  (7, prog_9_method_3_code, 3, none, 3),
  (7, prog_9_method_6_code, 4, none, 3),
  (11, prog_1_method_16_code, 4, some .int, 3),
  (7, prog_9_method_7_code, 6, some .int, 2),
  (9, prog_11_method_12_code, 3, some .int, 1),
  (11, prog_1_method_17_code, 4, some .int, 3),
  (2, prog_4_method_2_code, 9, some .int, 5),
  (2, prog_4_method_4_code, 7, some .boolean, 3),
  (15, prog_16_method_48_code, 2, some .int, 1),
  (2, prog_4_method_6_code, 4, some .int, 1),
  (2, prog_4_method_5_code, 3, none, 3),
  (2, prog_4_method_7_code, 6, some .boolean, 4),
  (2, prog_4_method_8_code, 5, some .boolean, 2),
  (9, prog_11_method_17_code, 4, some .int, 2),
  (2, prog_4_method_3_code, 3, some .int, 1),
  (11, prog_1_method_18_code, 9, some .int, 5),
  (11, prog_1_method_32_code, 1, some .boolean, 1),
  (11, prog_1_method_19_code, 5, some .int, 3),
  (3, prog_5_method_2_code, 6, none, 3),
  (3, prog_5_method_3_code, 5, some .int, 3),
  (3, prog_5_method_4_code, 4, some .boolean, 4),
  (3, prog_5_method_5_code, 1, some .int, 1),
  (3, prog_5_method_6_code, 5, some .int, 2),
  (3, prog_5_method_7_code, 4, some .int, 3),
  (11, prog_1_method_20_code, 10, some .int, 4),
  (11, prog_1_method_36_code, 12, some .int, 4),
  (11, prog_1_method_21_code, 8, some .int, 3),
  (7, prog_9_method_4_code, 3, none, 2),
  (9, prog_11_method_14_code, 4, some .int, 2),
  (11, prog_1_method_22_code, 6, some .int, 3),
  (0, prog_2_method_7_code, 5, some .int, 2),
  (11, prog_1_method_23_code, 6, some .int, 3),
  (9, prog_11_method_16_code, 3, some .int, 1),
  (11, prog_1_method_40_code, 6, some .int, 2),
  (11, prog_1_method_24_code, 3, some .int, 2),
  (11, prog_1_method_25_code, 7, some .int, 4),
  (11, prog_1_method_37_code, 7, some .int, 3),
  (11, prog_1_method_38_code, 1, some .int, 1),
  (11, prog_1_method_39_code, 1, some .int, 1),
  (11, prog_1_method_26_code, 2, some .int, 2),
  (11, prog_1_method_27_code, 2, some .int, 2),
  (10, prog_12_method_2_code, 2, none, 2),
  (4, prog_6_method_5_code, 4, none, 2),
  (11, prog_1_method_28_code, 2, some .int, 2),
  (12, prog_14_method_1_code, 1, none, 1),
  (12, prog_14_method_19_code, 6, some .int, 6),
  (12, prog_14_method_20_code, 3, none, 2),
  (12, prog_14_method_21_code, 2, some .int, 2),
  (12, prog_14_method_55_code, 2, some .int, 1),
  (12, prog_14_method_54_code, 3, none, 1),
  (12, prog_14_method_53_code, 1, none, 1),
  (12, prog_14_method_50_code, 4, none, 2),
  (12, prog_14_method_25_code, 1, none, 1),
  (12, prog_14_method_24_code, 1, some .int, 1),
  (12, prog_14_method_45_code, 1, some (.object "java/lang/String"), 1),
  (12, prog_14_method_27_code, 5, some .boolean, 2),
  (12, prog_14_method_23_code, 3, none, 3),
  (12, prog_14_method_49_code, 3, some .boolean, 3),
  (12, prog_14_method_48_code, 4, none, 2),
  (12, prog_14_method_46_code, 3, none, 1),
  (12, prog_14_method_41_code, 5, some .int, 3),
  (12, prog_14_method_31_code, 4, some .int, 2),
  (12, prog_14_method_26_code, 1, some .boolean, 1),
  (12, prog_14_method_3_code, 6, some .boolean, 3),
  (12, prog_14_method_47_code, 4, none, 1),
  (12, prog_14_method_42_code, 1, some .int, 1),
  (12, prog_14_method_43_code, 5, some .int, 3),
  (12, prog_14_method_10_code, 4, some .int, 3),
  (12, prog_14_method_44_code, 4, some .int, 2),
  (12, prog_14_method_52_code, 2, some .boolean, 1),
  (12, prog_14_method_51_code, 3, none, 2),
  (12, prog_14_method_57_code, 3, some .int, 1),
  (12, prog_14_method_56_code, 4, none, 2),
  (12, prog_14_method_40_code, 5, none, 1),
  (12, prog_14_method_39_code, 1, some .boolean, 1),
  (12, prog_14_method_37_code, 2, none, 2),
  (12, prog_14_method_35_code, 3, none, 1),
  (12, prog_14_method_34_code, 2, none, 1),
  (12, prog_14_method_33_code, 2, none, 1),
  (12, prog_14_method_32_code, 3, none, 1),
  (12, prog_14_method_30_code, 2, none, 2),
  (12, prog_14_method_29_code, 3, none, 3),
  (12, prog_14_method_22_code, 1, some (.object "java/lang/String"), 1),
  (12, prog_14_method_38_code, 2, none, 2),
  (12, prog_14_method_36_code, 1, some .int, 1),
  (12, prog_14_method_58_code, 3, some .int, 2),
  (12, prog_14_method_65_code, 3, some .int, 3),
  (12, prog_14_method_7_code, 2, some .boolean, 2),
  (12, prog_14_method_11_code, 2, some .int, 2),
  (12, prog_14_method_12_code, 2, some .int, 2),
  (12, prog_14_method_5_code, 2, some .boolean, 2),
  (12, prog_14_method_13_code, 2, some .int, 2),
  (12, prog_14_method_64_code, 4, some .int, 2),
  (12, prog_14_method_9_code, 2, some .boolean, 2),
  (12, prog_14_method_66_code, 3, some .int, 3),
  (12, prog_14_method_8_code, 2, some .boolean, 2),
  (12, prog_14_method_79_code, 1, some .int, 1),
  (12, prog_14_method_77_code, 3, none, 3),
  (12, prog_14_method_75_code, 3, some .int, 2),
  (12, prog_14_method_76_code, 3, none, 2),
  (12, prog_14_method_80_code, 1, some .int, 1),
  (12, prog_14_method_6_code, 1, some .boolean, 1),
  (12, prog_14_method_78_code, 2, none, 1),
  (12, prog_14_method_74_code, 4, some .int, 1),
  (12, prog_14_method_63_code, 3, some .int, 1),
  (12, prog_14_method_70_code, 4, none, 2),
  (12, prog_14_method_68_code, 3, some .boolean, 2),
  (12, prog_14_method_67_code, 4, none, 4),
  (12, prog_14_method_14_code, 3, some .int, 1),
  (12, prog_14_method_69_code, 3, some .int, 3),
  (12, prog_14_method_72_code, 5, some .boolean, 2),
  (12, prog_14_method_71_code, 3, some .boolean, 3),
  (12, prog_14_method_15_code, 2, some .int, 1),
  (12, prog_14_method_18_code, 3, some .int, 1),
  (12, prog_14_method_4_code, 3, some .int, 1),
  (12, prog_14_method_59_code, 3, some .boolean, 1),
  (12, prog_14_method_62_code, 8, some .long, 4),
  (12, prog_14_method_61_code, 5, some .long, 3),
  (12, prog_14_method_60_code, 1, some .long, 1),
  (12, prog_14_method_16_code, 3, some .int, 1),
  (12, prog_14_method_73_code, 3, none, 1),
  (12, prog_14_method_82_code, 3, some .int, 3),
  (12, prog_14_method_17_code, 2, some .boolean, 1),
  (12, prog_14_method_81_code, 5, some .int, 4),
  (12, prog_14_method_83_code, 5, some .int, 2),
  (12, prog_14_method_84_code, 3, some .boolean, 3),
  (12, prog_14_method_87_code, 5, some .int, 3),
  (12, prog_14_method_85_code, 3, none, 2),
  (12, prog_14_method_86_code, 3, none, 3),
  (12, prog_14_method_91_code, 5, some .int, 4),
  (12, prog_14_method_88_code, 1, none, 1),
  (12, prog_14_method_114_code, 3, none, 3),
  (12, prog_14_method_113_code, 3, none, 2),
  (12, prog_14_method_90_code, 3, none, 2),
  (12, prog_14_method_89_code, 1, none, 1),
  (12, prog_14_method_92_code, 9, some .int, 3),
  (12, prog_14_method_95_code, 6, some .int, 3),
  (12, prog_14_method_94_code, 5, some .boolean, 3),
  (12, prog_14_method_93_code, 3, some .boolean, 2),
  (12, prog_14_method_96_code, 10, some .int, 5),
  (12, prog_14_method_98_code, 4, some .int, 3),
  (12, prog_14_method_97_code, 6, some .int, 2),
  (12, prog_14_method_101_code, 9, some .int, 4),
  (12, prog_14_method_99_code, 6, some .int, 3),
  (12, prog_14_method_100_code, 7, some .boolean, 2),
  (12, prog_14_method_103_code, 7, some .int, 3),
  (12, prog_14_method_102_code, 3, some .int, 1),
  (12, prog_14_method_105_code, 5, some .int, 3),
  (12, prog_14_method_104_code, 4, some .int, 2),
  (12, prog_14_method_107_code, 7, some .int, 3),
  (12, prog_14_method_106_code, 3, some .int, 1),
  (12, prog_14_method_108_code, 3, some .int, 2),
  (12, prog_14_method_111_code, 11, some .int, 4),
  (12, prog_14_method_110_code, 4, some .int, 2),
  (12, prog_14_method_109_code, 2, some .int, 2),
  (12, prog_14_method_112_code, 2, some .int, 2),
  (12, prog_14_method_115_code, 2, some .int, 2),
  (12, prog_14_method_116_code, 2, some .int, 2),
  (18, code, 4, some .boolean, 1)]
def am_mn : List MethodName := [⟨"PaperRiver", "<init>", "()V"⟩,
  ⟨"java/lang/Object", "<init>", "()V"⟩,
  ⟨"PaperRiver$Tape", "<init>", "()V"⟩,
  ⟨"PaperRiver$RiverText", "<init>", "()V"⟩,
  ⟨"PaperRiver$Bed", "<init>", "()V"⟩,
  ⟨"PaperRiver$Water", "<init>", "()V"⟩,
  ⟨"PaperRiver$RuleText", "<init>", "()V"⟩,
  ⟨"PaperRiver$World", "<init>", "()V"⟩,
  ⟨"PaperRiver$Past", "<init>", "()V"⟩,
  ⟨"PaperRiver$Stream", "<init>", "()V"⟩,
  ⟨"PaperRiver$NetSearch", "<init>", "()V"⟩,
  ⟨"PaperRiver$Orders", "<init>", "()V"⟩,
  ⟨"PaperRiver", "feed", "(IIIII)I"⟩,
  ⟨"PaperRiver$Tape", "add", "(I)V"⟩,
  ⟨"PaperRiver", "end", "(I)I"⟩,
  ⟨"PaperRiver", "river", "()I"⟩,
  ⟨"PaperRiver$RiverText", "read", "(LPaperRiver$Tape;)I"⟩,
  ⟨"PaperRiver$Tape", "rewind", "()V"⟩,
  ⟨"PaperRiver$Bed", "start", "(I)V"⟩,
  ⟨"PaperRiver$Water", "start", "()V"⟩,
  ⟨"java/util/Arrays", "fill", "([II)V"⟩,
  ⟨"PaperRiver$RiverText", "readClause", "(LPaperRiver$Tape;I)Z"⟩,
  ⟨"PaperRiver$Tape", "readWord", "(Ljava/lang/String;)I"⟩,
  ⟨"PaperRiver$Tape", "peek", "()I"⟩,
  ⟨"java/lang/String", "length", "()I"⟩,
  ⟨"java/lang/String", "coder", "()B"⟩,
  ⟨"java/lang/String", "charAt", "(I)C"⟩,
  ⟨"java/lang/String", "isLatin1", "()Z"⟩,
  ⟨"java/lang/StringLatin1", "charAt", "([BI)C"⟩,
  ⟨"java/lang/String", "checkIndex", "(II)V"⟩,
  ⟨"jdk/internal/util/Preconditions", "checkIndex", "(IILjava/util/function/BiFunction;)I"⟩,
  ⟨"java/lang/StringUTF16", "charAt", "([BI)C"⟩,
  ⟨"java/lang/StringUTF16", "checkIndex", "(I[B)V"⟩,
  ⟨"java/lang/StringUTF16", "length", "([B)I"⟩,
  ⟨"java/lang/StringUTF16", "getChar", "([BI)C"⟩,
  ⟨"PaperRiver$Tape", "standsHere", "(Ljava/lang/String;II)Z"⟩,
  ⟨"PaperRiver$Tape", "wrong", "(II)Z"⟩,
  ⟨"PaperRiver$RiverText", "isFull", "(I)Z"⟩,
  ⟨"PaperRiver$Water", "countNets", "()I"⟩,
  ⟨"PaperRiver$RiverText", "readRiver", "(LPaperRiver$Tape;)Z"⟩,
  ⟨"PaperRiver$Tape", "readNumberFrom", "(II)I"⟩,
  ⟨"PaperRiver$Tape", "readNumber", "()I"⟩,
  ⟨"PaperRiver$RiverText", "readOfCell", "(LPaperRiver$Tape;I)Z"⟩,
  ⟨"PaperRiver$RiverText", "isTaken", "(II)Z"⟩,
  ⟨"PaperRiver$RiverText", "readSecond", "(LPaperRiver$Tape;I)I"⟩,
  ⟨"PaperRiver$Tape", "readLetters", "(I)I"⟩,
  ⟨"PaperRiver$Tape", "isSmall", "(I)Z"⟩,
  ⟨"PaperRiver$RiverText", "tell", "(III)V"⟩,
  ⟨"PaperRiver$Bed", "addMill", "(II)V"⟩,
  ⟨"PaperRiver$Bed", "addDam", "(I)V"⟩,
  ⟨"PaperRiver$Water", "addScrap", "(II)I"⟩,
  ⟨"PaperRiver$Water", "write", "(II)V"⟩,
  ⟨"PaperRiver$Tape", "goesOn", "()Z"⟩,
  ⟨"PaperRiver$Bed", "takeFrom", "(LPaperRiver$Bed;)V"⟩,
  ⟨"PaperRiver$Water", "takeFrom", "(LPaperRiver$Water;)V"⟩,
  ⟨"PaperRiver$Past", "forget", "()V"⟩,
  ⟨"PaperRiver", "rule", "()I"⟩,
  ⟨"PaperRiver$RuleText", "read", "(LPaperRiver$Tape;)I"⟩,
  ⟨"PaperRiver$RuleText", "readTest", "(LPaperRiver$Tape;I)Z"⟩,
  ⟨"PaperRiver$RuleText", "readFact", "(LPaperRiver$Tape;I)Z"⟩,
  ⟨"PaperRiver$RuleText", "readBrackets", "(LPaperRiver$Tape;I)Z"⟩,
  ⟨"PaperRiver$Tape", "takes", "(Ljava/lang/String;)Z"⟩,
  ⟨"PaperRiver$RuleText", "write", "(I)V"⟩,
  ⟨"PaperRiver$RuleText", "readSum", "(LPaperRiver$Tape;)Z"⟩,
  ⟨"PaperRiver$RuleText", "readValue", "(LPaperRiver$Tape;)Z"⟩,
  ⟨"PaperRiver$RuleText", "countPiece", "(LPaperRiver$Tape;I)Z"⟩,
  ⟨"PaperRiver$RuleText", "timesSign", "(I)I"⟩,
  ⟨"PaperRiver$RuleText", "addSign", "(I)I"⟩,
  ⟨"PaperRiver$RuleText", "readSign", "(LPaperRiver$Tape;)I"⟩,
  ⟨"PaperRiver$RuleText", "toLaw", "()LPaperRiver$Law;"⟩,
  ⟨"java/util/Arrays", "copyOf", "([II)[I"⟩,
  ⟨"java/lang/Math", "min", "(II)I"⟩,
  ⟨"PaperRiver$Law", "<init>", "([I)V"⟩,
  ⟨"PaperRiver", "force", "(I)I"⟩,
  ⟨"PaperRiver", "cell", "(II)I"⟩,
  ⟨"PaperRiver", "isCell", "(I)Z"⟩,
  ⟨"PaperRiver$Bed", "printedIn", "(I)I"⟩,
  ⟨"PaperRiver", "damState", "(I)I"⟩,
  ⟨"PaperRiver$Water", "scrapsIn", "(I)I"⟩,
  ⟨"PaperRiver", "scrap", "(II)I"⟩,
  ⟨"PaperRiver", "isScrap", "(I)Z"⟩,
  ⟨"PaperRiver", "day", "()I"⟩,
  ⟨"PaperRiver", "hasRiver", "()Z"⟩,
  ⟨"PaperRiver$Past", "keep", "(LPaperRiver$Water;)V"⟩,
  ⟨"PaperRiver", "lawInForce", "()LPaperRiver$Law;"⟩,
  ⟨"PaperRiver$Stream", "begin", "(LPaperRiver$Bed;LPaperRiver$Water;LPaperRiver$Law;)V"⟩,
  ⟨"PaperRiver$Stream", "passDay", "()V"⟩,
  ⟨"PaperRiver$Stream", "drift", "(I)V"⟩,
  ⟨"PaperRiver$Water", "leave", "(III)V"⟩,
  ⟨"PaperRiver$Water", "printBehind", "(II)V"⟩,
  ⟨"PaperRiver$Water", "cellsWith", "(I)I"⟩,
  ⟨"PaperRiver$Stream", "joinFirst", "(I)Z"⟩,
  ⟨"java/lang/Integer", "bitCount", "(I)I"⟩,
  ⟨"PaperRiver$Stream", "mayJoin", "(III)Z"⟩,
  ⟨"PaperRiver$Water", "lastLetter", "(I)I"⟩,
  ⟨"PaperRiver$Water", "firstLetter", "(I)I"⟩,
  ⟨"PaperRiver$Law", "holds", "([J[J)Z"⟩,
  ⟨"PaperRiver$Law", "reckon", "(IJJ)J"⟩,
  ⟨"PaperRiver$Water", "join", "(II)V"⟩,
  ⟨"PaperRiver$Stream", "catchAll", "()V"⟩,
  ⟨"PaperRiver$Stream", "skipDays", "(I)V"⟩,
  ⟨"PaperRiver", "drop", "(II)I"⟩,
  ⟨"PaperRiver", "lettersOf", "(I)I"⟩,
  ⟨"PaperRiver", "tear", "(I)I"⟩,
  ⟨"PaperRiver", "dam", "(IZ)Z"⟩,
  ⟨"PaperRiver", "net", "(II)I"⟩,
  ⟨"PaperRiver", "undo", "()I"⟩,
  ⟨"PaperRiver$Past", "giveBack", "(LPaperRiver$Water;)V"⟩,
  ⟨"PaperRiver", "ahead", "(III)I"⟩,
  ⟨"PaperRiver$Stream", "beginLook", "(LPaperRiver$World;LPaperRiver$Law;)V"⟩,
  ⟨"PaperRiver$Stream", "follow", "(II)V"⟩,
  ⟨"PaperRiver", "mouth", "(II)I"⟩,
  ⟨"PaperRiver$Stream", "nthIntoSea", "(I)I"⟩,
  ⟨"PaperRiver$Water", "onRiver", "()I"⟩,
  ⟨"PaperRiver", "fleet", "(II)I"⟩,
  ⟨"PaperRiver$NetSearch", "fewest", "(LPaperRiver$Stream;LPaperRiver$World;LPaperRiver$Law;I)I"⟩,
  ⟨"PaperRiver$NetSearch", "isIdle", "(II)Z"⟩,
  ⟨"java/lang/Integer", "numberOfTrailingZeros", "(I)I"⟩,
  ⟨"PaperRiver$NetSearch", "indexOf", "(I)I"⟩,
  ⟨"PaperRiver$NetSearch", "remember", "(II)V"⟩,
  ⟨"PaperRiver$NetSearch", "getsAll", "(LPaperRiver$Stream;II)Z"⟩,
  ⟨"PaperRiver$NetSearch", "isOpen", "(LPaperRiver$Water;I)Z"⟩,
  ⟨"PaperRiver$Water", "lastFate", "(I)I"⟩,
  ⟨"PaperRiver$NetSearch", "nextOfSize", "(I)I"⟩,
  ⟨"PaperRiver", "put", "(IIII)I"⟩,
  ⟨"PaperRiver", "isSpan", "(I)Z"⟩,
  ⟨"PaperRiver", "rows", "(II)I"⟩,
  ⟨"PaperRiver$Orders", "lay", "(LPaperRiver$Water;I)V"⟩,
  ⟨"PaperRiver$Orders", "waysOn", "(II)I"⟩,
  ⟨"PaperRiver$Orders", "mayFollow", "(III)Z"⟩,
  ⟨"PaperRiver$Orders", "countAll", "()I"⟩,
  ⟨"PaperRiver$Orders", "inFirst", "(I)I"⟩,
  ⟨"PaperRiver$Orders", "leastNext", "(II)I"⟩,
  ⟨"PaperRiver", "seen", "(III)I"⟩,
  ⟨"PaperRiver", "daysSeenFrom", "(III)I"⟩,
  ⟨"PaperRiver", "gates", "(II)I"⟩,
  ⟨"PaperRiver$Stream", "passDays", "(I)V"⟩,
  ⟨"PaperRiver$Water", "countFate", "(I)I"⟩,
  ⟨"PaperRiver", "round", "(II)I"⟩,
  ⟨"PaperRiver$Bed", "ringBelow", "(I)I"⟩,
  ⟨"PaperRiver", "share", "(II)I"⟩,
  ⟨"PaperRiver$Water", "countPrinted", "()I"⟩,
  ⟨"PaperRiver", "commonDivisor", "(II)I"⟩,
  ⟨"PaperRiver", "seed", "(I)I"⟩,
  ⟨"PaperRiver", "years", "(III)I"⟩,
  ⟨"PaperRiver", "passDrawnDays", "(II)I"⟩,
  ⟨"PaperRiver", "nextSeedling", "(I)I"⟩,
  ⟨"PaperRiver", "drawOf", "(I)I"⟩,
  ⟨"PaperRiver", "count", "(I)I"⟩,
  ⟨"PaperRiver", "image", "(I)I"⟩,
  ⟨"PaperRiver$World", "takeFrom", "(LPaperRiver$World;)V"⟩,
  ⟨"PaperRiver$Past", "takeFrom", "(LPaperRiver$Past;)V"⟩,
  ⟨"PaperRiver", "back", "(I)I"⟩,
  ⟨"PaperRiverModel", "<init>", "()V"⟩,
  ⟨"PaperRiverModel", "feed", "(IIIII)I"⟩,
  ⟨"PaperRiverModel", "tapes", "(I)V"⟩,
  ⟨"PaperRiverModel", "end", "(I)I"⟩,
  ⟨"PaperRiverModel", "river", "()I"⟩,
  ⟨"PaperRiverModel", "readsAll", "()V"⟩,
  ⟨"PaperRiverModel", "starts", "()V"⟩,
  ⟨"PaperRiverModel", "riverClause", "(I)V"⟩,
  ⟨"PaperRiverModel", "blanks", "()V"⟩,
  ⟨"PaperRiverModel", "sign", "()I"⟩,
  ⟨"PaperRiverModel", "riverWord", "(I)Ljava/lang/String;"⟩,
  ⟨"PaperRiverModel", "stood", "(Ljava/lang/String;)Z"⟩,
  ⟨"PaperRiverModel", "fails", "(II)V"⟩,
  ⟨"PaperRiverModel", "isFull", "(II)Z"⟩,
  ⟨"PaperRiverModel", "riverPart", "(I)V"⟩,
  ⟨"PaperRiverModel", "readsRiver", "()V"⟩,
  ⟨"PaperRiverModel", "amount", "(II)I"⟩,
  ⟨"PaperRiverModel", "digits", "(I)I"⟩,
  ⟨"PaperRiverModel", "isDigit", "()Z"⟩,
  ⟨"PaperRiverModel", "in", "(JJJ)Z"⟩,
  ⟨"PaperRiverModel", "readsFlow", "()V"⟩,
  ⟨"PaperRiverModel", "newCell", "()I"⟩,
  ⟨"PaperRiverModel", "freeCell", "([II)I"⟩,
  ⟨"PaperRiverModel", "placeOf", "([III)I"⟩,
  ⟨"PaperRiverModel", "letters", "(I)I"⟩,
  ⟨"PaperRiverModel", "goesOn", "()Z"⟩,
  ⟨"PaperRiverModel", "copies", "([I[I)V"⟩,
  ⟨"PaperRiverModel", "rule", "()I"⟩,
  ⟨"PaperRiverModel", "ruleClause", "(I)V"⟩,
  ⟨"PaperRiverModel", "test", "()V"⟩,
  ⟨"PaperRiverModel", "fact", "()Z"⟩,
  ⟨"PaperRiverModel", "opens", "(I)V"⟩,
  ⟨"PaperRiverModel", "compared", "()V"⟩,
  ⟨"PaperRiverModel", "sum", "()V"⟩,
  ⟨"PaperRiverModel", "term", "()V"⟩,
  ⟨"PaperRiverModel", "value", "()V"⟩,
  ⟨"PaperRiverModel", "isCounted", "(I)V"⟩,
  ⟨"PaperRiverModel", "entry", "(II)V"⟩,
  ⟨"PaperRiverModel", "wordOf", "(I)Ljava/lang/String;"⟩,
  ⟨"PaperRiverModel", "answers", "(I)V"⟩,
  ⟨"PaperRiverModel", "top", "()I"⟩,
  ⟨"PaperRiverModel", "force", "(I)I"⟩,
  ⟨"PaperRiverModel", "cell", "(II)I"⟩,
  ⟨"PaperRiverModel", "isCell", "(I)Z"⟩,
  ⟨"PaperRiverModel", "millIn", "(I)I"⟩,
  ⟨"PaperRiverModel", "damIn", "(I)I"⟩,
  ⟨"PaperRiverModel", "has", "(II)Z"⟩,
  ⟨"PaperRiverModel", "netIn", "(I)I"⟩,
  ⟨"PaperRiverModel", "scrapsIn", "(I)I"⟩,
  ⟨"PaperRiverModel", "floats", "(I)Z"⟩,
  ⟨"PaperRiverModel", "scrap", "(II)I"⟩,
  ⟨"PaperRiverModel", "isScrap", "(I)Z"⟩,
  ⟨"PaperRiverModel", "undo", "()I"⟩,
  ⟨"PaperRiverModel", "movesAll", "(IZ)V"⟩,
  ⟨"PaperRiverModel", "moves", "(I)I"⟩,
  ⟨"PaperRiverModel", "movesRow", "([I)V"⟩,
  ⟨"PaperRiverModel", "day", "()I"⟩,
  ⟨"PaperRiverModel", "isRiver", "()Z"⟩,
  ⟨"PaperRiverModel", "keepsAct", "()V"⟩,
  ⟨"PaperRiverModel", "dayPasses", "()I"⟩,
  ⟨"PaperRiverModel", "afloat", "()I"⟩,
  ⟨"PaperRiverModel", "drifts", "(I)V"⟩,
  ⟨"PaperRiverModel", "isShut", "(I)Z"⟩,
  ⟨"PaperRiverModel", "leaves", "(III)V"⟩,
  ⟨"PaperRiverModel", "lengthOf", "(I)I"⟩,
  ⟨"PaperRiverModel", "printedBehind", "(II)I"⟩,
  ⟨"PaperRiverModel", "joinsIn", "(I)Z"⟩,
  ⟨"PaperRiverModel", "canJoin", "(II)Z"⟩,
  ⟨"PaperRiverModel", "firstOf", "(I)I"⟩,
  ⟨"PaperRiverModel", "lettersOf", "(I)I"⟩,
  ⟨"PaperRiverModel", "bits", "(I)I"⟩,
  ⟨"PaperRiverModel", "isTrue", "()Z"⟩,
  ⟨"PaperRiverModel", "answer", "(III)J"⟩,
  ⟨"PaperRiverModel", "both", "(IJJ)J"⟩,
  ⟨"PaperRiverModel", "truth", "(Z)J"⟩,
  ⟨"PaperRiverModel", "tens", "(I)I"⟩,
  ⟨"PaperRiverModel", "catches", "()V"⟩,
  ⟨"PaperRiverModel", "drop", "(II)I"⟩,
  ⟨"PaperRiverModel", "isText", "(I)Z"⟩,
  ⟨"PaperRiverModel", "adds", "(III)I"⟩,
  ⟨"PaperRiverModel", "tear", "(I)I"⟩,
  ⟨"PaperRiverModel", "dam", "(IZ)Z"⟩,
  ⟨"PaperRiverModel", "net", "(II)I"⟩,
  ⟨"PaperRiverModel", "netGoes", "(I)V"⟩,
  ⟨"PaperRiverModel", "netComes", "(II)V"⟩,
  ⟨"PaperRiverModel", "ahead", "(III)I"⟩,
  ⟨"PaperRiverModel", "keepsAll", "()V"⟩,
  ⟨"PaperRiverModel", "carriesAll", "(IZ)V"⟩,
  ⟨"PaperRiverModel", "carryRow", "([I)V"⟩,
  ⟨"PaperRiverModel", "goes", "(I)V"⟩,
  ⟨"PaperRiverModel", "laysBack", "()V"⟩,
  ⟨"PaperRiverModel", "mouth", "(II)I"⟩,
  ⟨"PaperRiverModel", "fleet", "(II)I"⟩,
  ⟨"PaperRiverModel", "doesGet", "(II)Z"⟩,
  ⟨"PaperRiverModel", "isGot", "(I)Z"⟩,
  ⟨"PaperRiverModel", "put", "(IIII)I"⟩,
  ⟨"PaperRiverModel", "rows", "(II)I"⟩,
  ⟨"PaperRiverModel", "countsRows", "(I)I"⟩,
  ⟨"PaperRiverModel", "seen", "(III)I"⟩,
  ⟨"PaperRiverModel", "driftsAlone", "(II)I"⟩,
  ⟨"PaperRiverModel", "canBecome", "(I)Z"⟩,
  ⟨"PaperRiverModel", "gates", "(II)I"⟩,
  ⟨"PaperRiverModel", "inTheSea", "()I"⟩,
  ⟨"PaperRiverModel", "round", "(II)I"⟩,
  ⟨"PaperRiverModel", "roundOf", "(I)I"⟩,
  ⟨"PaperRiverModel", "share", "(II)I"⟩,
  ⟨"PaperRiverModel", "allPrinted", "()I"⟩,
  ⟨"PaperRiverModel", "seed", "(I)I"⟩,
  ⟨"PaperRiverModel", "years", "(III)I"⟩,
  ⟨"PaperRiverModel", "gone", "(I)I"⟩,
  ⟨"PaperRiverModel", "draws", "(I)I"⟩,
  ⟨"PaperRiverModel", "count", "(I)I"⟩,
  ⟨"PaperRiverModel", "image", "(I)I"⟩,
  ⟨"PaperRiverModel", "back", "(I)I"⟩,
  ⟨"PaperRiverLaw", "law", "([I)Z"⟩]
/-- method links: class of its own, index, (method, how it is called) -/
def am_ml : List (List (Nat × Nat × Nat)) := [
  [(3, 0, 9), (37, 0, 10)],
  [(1, 0, 9), (13, 97, 1)],
  [(3, 0, 9), (39, 116, 0), (62, 117, 1), (67, 118, 1), (70, 0, 11), (53, 119, 0), (43, 109, 0), (49, 120, 0), (77, 121, 1), (90, 122, 0), (81, 86, 0), (84, 90, 0), (57, 123, 1)],
  [(3, 0, 9), (33, 95, 0), (37, 94, 0), (40, 128, 0), (44, 129, 0), (48, 132, 0)],
  [(3, 0, 9), (25, 54, 0), (29, 55, 0), (32, 83, 0), (24, 5, 5)],
  [(3, 0, 9), (25, 17, 0), (30, 18, 0), (34, 19, 0), (36, 21, 0), (50, 22, 0), (54, 37, 0), (126, 38, 0), (61, 36, 0), (65, 39, 0), (72, 40, 0), (69, 42, 0), (79, 43, 0), (82, 44, 0), (90, 45, 0), (86, 47, 0), (101, 48, 0), (105, 49, 0), (111, 50, 0), (40, 52, 0), (11, 4, 5), (20, 5, 5)],
  [(3, 0, 9), (33, 17, 0), (40, 22, 0), (47, 36, 0), (51, 58, 0), (66, 59, 0), (80, 23, 0), (84, 60, 0), (71, 61, 0), (55, 62, 0), (89, 63, 0), (104, 64, 0), (114, 41, 0), (97, 65, 0), (107, 66, 1), (111, 67, 1), (93, 68, 0), (59, 52, 0), (24, 70, 1), (30, 72, 2)],
  [(3, 0, 9), (94, 87, 0), (118, 88, 0), (134, 89, 0), (60, 90, 0), (97, 91, 0), (141, 78, 0), (144, 92, 1), (149, 93, 0), (156, 94, 0), (159, 95, 0), (165, 96, 0), (153, 98, 0), (101, 99, 0), (64, 100, 0), (74, 0, 11), (51, 54, 0), (56, 85, 0), (68, 86, 0), (84, 113, 0), (11, 5, 5)],
  [(3, 0, 9), (28, 23, 0), (43, 24, 0), (47, 26, 0), (51, 35, 0), (32, 36, 0), (36, 41, 0), (39, 46, 0)],
  [(3, 0, 9), (52, 20, 1), (64, 51, 0), (58, 0, 10), (71, 88, 0)],
  [(3, 0, 9), (39, 53, 0), (43, 54, 0), (46, 151, 0), (11, 4, 5), (20, 5, 5), (27, 8, 5)],
  [(3, 0, 9), (75, 13, 0), (79, 16, 0), (88, 53, 0), (99, 54, 0), (108, 55, 0), (116, 57, 0), (117, 69, 0), (124, 75, 0), (135, 76, 0), (139, 77, 0), (145, 78, 0), (148, 80, 0), (169, 82, 0), (176, 83, 0), (179, 84, 0), (182, 85, 0), (186, 86, 0), (198, 102, 1), (201, 50, 0), (211, 51, 0), (221, 38, 0), (228, 107, 0), (231, 109, 0), (235, 110, 0), (239, 112, 0), (242, 113, 0), (245, 115, 0), (249, 92, 1), (254, 125, 1), (260, 127, 0), (264, 130, 0), (267, 131, 0), (270, 134, 0), (274, 117, 1), (280, 136, 0), (283, 137, 0), (286, 139, 0), (292, 141, 0), (298, 142, 1), (304, 145, 0), (310, 146, 1), (313, 147, 1), (307, 150, 0), (11, 2, 5), (18, 3, 5), (25, 6, 5), (42, 7, 5), (53, 9, 5), (60, 10, 5), (67, 11, 5)],
  [(3, 0, 9), (160, 155, 0), (339, 158, 0), (330, 159, 0), (333, 160, 0), (208, 161, 0), (191, 162, 0), (320, 163, 1), (211, 164, 0), (199, 24, 0), (204, 26, 0), (224, 165, 0), (323, 166, 0), (327, 167, 0), (307, 168, 0), (282, 169, 0), (233, 170, 0), (228, 171, 0), (143, 172, 1), (310, 173, 0), (286, 174, 0), (313, 175, 0), (147, 176, 1), (317, 177, 0), (336, 178, 0), (342, 179, 1), (357, 181, 0), (351, 182, 0), (272, 183, 0), (266, 184, 0), (269, 185, 0), (252, 186, 0), (249, 187, 0), (246, 188, 0), (236, 189, 0), (239, 190, 0), (242, 191, 1), (275, 192, 0), (261, 193, 0), (378, 196, 0), (381, 197, 0), (384, 198, 0), (387, 199, 1), (390, 200, 0), (393, 201, 0), (374, 202, 0), (396, 204, 0), (453, 206, 0), (446, 207, 0), (449, 208, 0), (457, 210, 0), (460, 211, 0), (463, 212, 0), (427, 213, 0), (430, 214, 0), (399, 215, 0), (402, 216, 0), (151, 217, 1), (406, 218, 0), (433, 219, 0), (421, 220, 0), (409, 221, 1), (412, 222, 1), (415, 223, 1), (418, 224, 0), (362, 225, 0), (370, 226, 1), (366, 227, 1), (424, 228, 1), (436, 229, 0), (466, 231, 1), (469, 232, 0), (475, 236, 0), (478, 237, 0), (488, 239, 0), (481, 240, 0), (547, 241, 0), (491, 242, 0), (494, 243, 0), (500, 246, 0), (497, 247, 0), (505, 250, 0), (511, 252, 0), (514, 253, 0), (517, 255, 0), (520, 257, 0), (523, 259, 0), (535, 262, 0), (538, 263, 0)],
  [(335, 25, 0), (492, 27, 0), (495, 28, 1), (1059, 30, 1), (498, 31, 1)],
  [(9, 29, 1)],
  [],
  [],
  [(304, 0, 11), (150, 0, 10)],
  [(9, 0, 2), (13, 12, 0), (18, 14, 0), (23, 15, 0), (28, 56, 0), (32, 73, 0), (36, 74, 0), (41, 79, 0), (45, 81, 0), (49, 101, 0), (53, 103, 0), (57, 104, 0), (62, 105, 0), (66, 106, 0), (70, 108, 0), (75, 111, 0), (79, 114, 0), (83, 124, 0), (88, 126, 0), (92, 133, 0), (96, 135, 0), (100, 138, 0), (104, 140, 0), (108, 143, 0), (112, 144, 0), (116, 148, 0), (120, 149, 0), (124, 152, 0), (12, 153, 2), (17, 154, 0), (22, 156, 0), (27, 157, 0), (31, 180, 0), (35, 194, 0), (40, 195, 0), (44, 203, 0), (69, 205, 0), (48, 209, 0), (52, 230, 0), (56, 233, 0), (61, 234, 0), (65, 235, 0), (74, 238, 0), (78, 244, 0), (82, 245, 0), (87, 248, 0), (91, 249, 0), (95, 251, 0), (99, 254, 0), (103, 256, 0), (107, 258, 0), (111, 260, 0), (115, 261, 0), (119, 264, 0), (123, 265, 0), (127, 266, 0)],
  [(67, 32, 1), (48, 33, 1), (414, 29, 1), (71, 34, 1)],
  [],
  []]
