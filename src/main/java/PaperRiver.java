import java.util.Arrays;

/** A river of paper, as the document tells it: cells, scraps that drift, and what can be asked of them. */
public final class PaperRiver {
    public static final int NONE = -1;

    private static final int LACKING = -2;
    private static final int CELLS_LEAST = 2;
    private static final int CELLS_MOST = 16;
    private static final int MILLS_MOST = 6;
    private static final int DAMS_MOST = 4;
    private static final int NETS_MOST = 5;
    private static final int TOLD_SCRAPS_MOST = 10;
    private static final int SCRAPS_MOST = 12;
    /** One place more than the limit, for the text that PUT tries beside twelve others. */
    private static final int SCRAP_ROOM = SCRAPS_MOST + 1;
    private static final int LETTERS_MOST = 8;
    private static final int LETTER_KINDS = 6;
    private static final int EDDY_MOST = 9;
    private static final int MESH_MOST = 8;
    private static final int RULES_MOST = 6;
    private static final int IMAGES_MOST = 4;
    private static final int ACTS_MOST = 20;
    private static final int LAST_DAY = 999;
    private static final int DAYS_AHEAD = 60;
    private static final int DAYS_AGO = 20;
    private static final int YEARS_MOST = 10;
    private static final int ROWS_MOST = 8;
    private static final int FLEET_MOST = 3;

    private static final int TAPE_MOST = 400;
    private static final int FED_BYTES = 20;
    private static final int RIVER_CLAUSES = 40;
    private static final int RULE_CLAUSES = 12;
    private static final int DEPTH_MOST = 10;
    private static final int PIECES_MOST = 60;
    private static final int DIGITS_MOST = 5;

    private static final int SEA = NONE;
    private static final int ON_RIVER = 0;
    private static final int IN_SEA = 1;
    private static final int CAUGHT = 2;
    private static final int JOINED = 3;

    private static final int FAULT_SYNTAX = 0;
    private static final int FAULT_NUMBER = 1;
    private static final int FAULT_DEEP = 2;
    private static final int FAULT_PIECES = 3;
    private static final int FAULT_CLAUSE = 4;

    private static final int[] TENS = {1, 10, 100, 1000, 10000, 100000, 1000000, 10000000, 100000000};

    private final Tape tape = new Tape();
    private final RiverText riverText = new RiverText();
    private final RuleText ruleText = new RuleText();
    private final Law[] laws = new Law[RULES_MOST];
    private int lawCount = 0;
    private final World now = new World();
    private final World[] images = new World[IMAGES_MOST];
    private final Stream stream = new Stream();
    private final NetSearch netSearch = new NetSearch();
    private final Orders orders = new Orders();

    public PaperRiver() {
    }

    public int feed(int a, int b, int c, int d, int e) {
        if (tape.length + FED_BYTES > TAPE_MOST) {
            return NONE;
        }
        tape.add(a);
        tape.add(b);
        tape.add(c);
        tape.add(d);
        tape.add(e);
        return tape.length;
    }

    public int end(int n) {
        if (n < 0 || n > tape.length) {
            return NONE;
        }
        tape.length = n;
        return n;
    }

    public int river() {
        int fault = riverText.read(tape);
        tape.length = 0;
        if (fault != 0) {
            return LACKING - fault;
        }
        now.bed.takeFrom(riverText.bed);
        now.water.takeFrom(riverText.water);
        now.past.forget();
        return now.water.scraps;
    }

    public int rule() {
        if (lawCount >= RULES_MOST) {
            return NONE;
        }
        int fault = ruleText.read(tape);
        tape.length = 0;
        if (fault != 0) {
            return LACKING - fault;
        }
        laws[lawCount] = ruleText.toLaw();
        lawCount++;
        return lawCount - 1;
    }

    public int force(int rule) {
        if (rule < NONE || rule >= lawCount) {
            return LACKING;
        }
        int was = now.inForce;
        now.inForce = rule;
        return was;
    }

    public int cell(int cell, int what) {
        if (!isCell(cell)) {
            return LACKING;
        }
        switch (what) {
            case 0:
                return now.bed.flow[cell];
            case 1:
                return now.bed.eddy[cell];
            case 2:
                return now.bed.printedIn(cell);
            case 3:
                return damState(cell);
            case 4:
                return now.water.mesh[cell];
            case 5:
                return now.water.scrapsIn(cell);
            default:
                return LACKING;
        }
    }

    public int scrap(int scrap, int what) {
        if (!isScrap(scrap)) {
            return LACKING;
        }
        Water water = now.water;
        switch (what) {
            case 0:
                return water.place[scrap];
            case 1:
                return water.text[scrap];
            case 2:
                return water.wait[scrap];
            case 3:
                return water.fate[scrap];
            case 4:
                return water.holder[scrap];
            case 5:
                return water.leftOn[scrap];
            default:
                return LACKING;
        }
    }

    public int day() {
        if (!hasRiver() || now.water.today >= LAST_DAY) {
            return NONE;
        }
        now.past.keep(now.water);
        stream.begin(now.bed, now.water, lawInForce());
        stream.passDay();
        return stream.toSea + stream.toNets + stream.toOthers;
    }

    public int drop(int cell, int text) {
        if (!isCell(cell) || lettersOf(text) == 0 || now.water.scraps >= SCRAPS_MOST) {
            return NONE;
        }
        now.past.keep(now.water);
        return now.water.addScrap(cell, text);
    }

    public int tear(int scrap) {
        Water water = now.water;
        if (!isScrap(scrap) || water.place[scrap] < 0 || water.size[scrap] < 2 || water.scraps >= SCRAPS_MOST) {
            return NONE;
        }
        now.past.keep(water);
        int latter = water.size[scrap] - water.size[scrap] / 2;
        int whole = water.text[scrap];
        int torn = water.addScrap(water.place[scrap], whole % TENS[latter]);
        if (torn < 0) {
            return NONE;
        }
        water.wait[torn] = water.wait[scrap];
        water.write(scrap, whole / TENS[latter]);
        return torn;
    }

    public boolean dam(int cell, boolean open) {
        int wanted = open ? 1 : 2;
        if (!isCell(cell) || damState(cell) == 0 || damState(cell) == wanted) {
            return false;
        }
        now.past.keep(now.water);
        now.water.shut ^= 1 << now.bed.damAt[cell];
        return true;
    }

    public int net(int cell, int mesh) {
        if (!isCell(cell) || mesh < 0 || mesh > MESH_MOST) {
            return NONE;
        }
        int was = now.water.mesh[cell];
        if (was == mesh || was == 0 && now.water.countNets() >= NETS_MOST) {
            return NONE;
        }
        now.past.keep(now.water);
        now.water.mesh[cell] = mesh;
        return was;
    }

    public int undo() {
        if (now.past.kept == 0) {
            return LACKING;
        }
        now.past.giveBack(now.water);
        return now.past.kept;
    }

    public int ahead(int scrap, int n, int what) {
        if (!isScrap(scrap) || n < 0 || n > DAYS_AHEAD || what < 0 || what > 2) {
            return LACKING;
        }
        stream.beginLook(now, lawInForce());
        stream.follow(scrap, n);
        Water then = stream.water;
        if (what == 0) {
            return then.place[scrap];
        }
        return what == 1 ? then.text[scrap] : then.fate[scrap];
    }

    public int mouth(int k, int what) {
        if (!hasRiver() || k < 0 || what < 0 || what > 2) {
            return NONE;
        }
        if (k >= now.water.scraps) {
            return LACKING;
        }
        stream.beginLook(now, lawInForce());
        int scrap = stream.nthIntoSea(k);
        if (scrap < 0) {
            return LACKING;
        }
        if (what == 0) {
            return scrap;
        }
        return what == 1 ? stream.water.leftOn[scrap] : stream.water.text[scrap];
    }

    public int fleet(int scraps, int what) {
        if (!hasRiver() || what < 0 || what > 1 || (scraps & ~now.water.onRiver()) != 0) {
            return NONE;
        }
        int cells = netSearch.fewest(stream, now, lawInForce(), scraps);
        if (cells < 0) {
            return LACKING;
        }
        return what == 0 ? Integer.bitCount(cells) : cells;
    }

    public int put(int text, int cell, int n, int what) {
        if (!isCell(cell) || lettersOf(text) == 0 || !isSpan(n) || what < 0 || what > 1) {
            return NONE;
        }
        int first = LACKING;
        int many = 0;
        for (int from = 0; from < now.bed.cells; from++) {
            stream.beginLook(now, lawInForce());
            int scrap = stream.water.addScrap(from, text);
            if (scrap < 0) {
                continue;
            }
            stream.follow(scrap, n);
            if (stream.water.place[scrap] == cell) {
                first = many == 0 ? from : first;
                many++;
            }
        }
        return what == 0 ? many : first;
    }

    public int rows(int scraps, int what) {
        if (!hasRiver() || what < 0 || what > SCRAPS_MOST) {
            return NONE;
        }
        int all = (1 << now.water.scraps) - 1;
        if ((scraps & ~all) != 0 || Integer.bitCount(scraps) > ROWS_MOST) {
            return NONE;
        }
        orders.lay(now.water, scraps);
        if (what == 0) {
            return orders.countAll();
        }
        int scrap = orders.inFirst(what - 1);
        return scrap < 0 ? LACKING : scrap;
    }

    public int seen(int text, int cell, int what) {
        if (!isCell(cell) || lettersOf(text) == 0 || what < 0 || what > 2) {
            return NONE;
        }
        int many = 0;
        int firstCell = LACKING;
        int firstDay = LACKING;
        for (int from = 0; from < now.bed.cells; from++) {
            int days = daysSeenFrom(from, cell, text);
            many += Integer.bitCount(days);
            int least = Integer.numberOfTrailingZeros(days);
            if (days != 0 && (firstDay < 0 || least < firstDay)) {
                firstDay = least;
                firstCell = from;
            }
        }
        if (what == 0) {
            return many;
        }
        return what == 1 ? firstCell : firstDay;
    }

    public int gates(int n, int what) {
        if (!hasRiver() || !isSpan(n) || what < 0 || what > 1) {
            return NONE;
        }
        int all = (1 << now.bed.dams) - 1;
        int best = 0;
        int most = NONE;
        for (int open = 0; open <= all; open++) {
            stream.beginLook(now, lawInForce());
            stream.water.shut = all & ~open;
            stream.passDays(n);
            int inSea = stream.water.countFate(IN_SEA);
            if (inSea > most) {
                most = inSea;
                best = open;
            }
        }
        return what == 0 ? best : most;
    }

    public int round(int cell, int what) {
        if (!isCell(cell) || what < 0 || what > 1) {
            return NONE;
        }
        int ring = now.bed.ringBelow(cell);
        if (what == 0) {
            return Integer.bitCount(ring);
        }
        int steps = 0;
        int at = cell;
        while (steps < CELLS_MOST && at >= 0 && (ring >> at & 1) == 0) {
            at = now.bed.flow[at];
            steps++;
        }
        return steps;
    }

    public int share(int mill, int part) {
        if (mill < 0 || mill >= now.bed.mills || part < 0 || part > 1) {
            return NONE;
        }
        int all = now.water.countPrinted();
        int own = now.water.printed[mill];
        if (all == 0) {
            return part;
        }
        int divisor = commonDivisor(all, own);
        if (divisor == 0) {
            return part;
        }
        return (part == 0 ? own : all) / divisor;
    }

    public int seed(int x) {
        if (x < 0) {
            return NONE;
        }
        int was = now.seedling;
        now.seedling = x;
        return was;
    }

    public int years(int m, int n, int what) {
        if (!hasRiver() || m < 1 || m > YEARS_MOST || !isSpan(n) || what < 0 || what > 2) {
            return NONE;
        }
        int x = now.seedling;
        int many = 0;
        for (int time = 0; time < m; time++) {
            stream.beginLook(now, lawInForce());
            x = passDrawnDays(n, x);
            if (what == 0) {
                many += stream.toSea;
            } else {
                many += what == 1 ? stream.toNets : stream.toOthers;
            }
        }
        return many;
    }

    public int count(int what) {
        switch (what) {
            case 0:
                return now.bed.cells;
            case 1:
                return now.bed.mills;
            case 2:
                return now.bed.dams;
            case 3:
                return now.water.countNets();
            case 4:
                return now.water.scraps;
            case 5:
                return lawCount;
            case 6:
                return now.inForce;
            case 7:
                return now.water.today;
            case 8:
                return now.water.onRiver();
            case 9:
                return now.water.countPrinted();
            case 10:
                return now.past.kept;
            case 11:
                return now.seedling;
            case 12:
                return tape.length;
            default:
                return NONE;
        }
    }

    public int image(int k) {
        if (k < 0 || k >= IMAGES_MOST) {
            return NONE;
        }
        if (images[k] == null) {
            images[k] = new World();
        }
        images[k].takeFrom(now);
        return now.water.today;
    }

    public int back(int k) {
        if (k < 0 || k >= IMAGES_MOST || images[k] == null) {
            return NONE;
        }
        now.takeFrom(images[k]);
        return now.water.today;
    }

    private boolean hasRiver() {
        return now.bed.cells > 0;
    }

    private boolean isCell(int cell) {
        return cell >= 0 && cell < now.bed.cells;
    }

    private boolean isScrap(int scrap) {
        return scrap >= 0 && scrap < now.water.scraps;
    }

    private static boolean isSpan(int n) {
        return n >= 1 && n <= DAYS_AHEAD;
    }

    private Law lawInForce() {
        return now.inForce < 0 || now.inForce >= lawCount ? null : laws[now.inForce];
    }

    /** 0: none, 1: open, 2: shut. */
    private int damState(int cell) {
        int number = now.bed.damAt[cell];
        if (number < 0) {
            return 0;
        }
        return 1 + (now.water.shut >> number & 1);
    }

    /** How many letters a text of digits 1 to 6 has; 0: it is no text. */
    private static int lettersOf(int text) {
        int letters = 0;
        int rest = text;
        while (rest > 0 && letters <= LETTERS_MOST) {
            int digit = rest % 10;
            if (digit < 1 || digit > LETTER_KINDS) {
                return 0;
            }
            rest /= 10;
            letters++;
        }
        return letters > LETTERS_MOST ? 0 : letters;
    }

    /**
     * How many days ago, as bits, a scrap can have been dropped, alone, to be in the cell with the text now.
     * A text of 8 letters can always have been dropped whole, as mills print nothing behind it.
     */
    private int daysSeenFrom(int from, int cell, int text) {
        int letters = lettersOf(text);
        int at = from;
        int wait = 0;
        int tail = 0;
        int tailLetters = 0;
        int days = 0;
        for (int day = 0; day <= DAYS_AGO && at >= 0; day++) {
            if (at == cell && text % TENS[tailLetters] == tail) {
                days |= 1 << day;
            }
            if (damState(at) == 2) {
                continue;
            }
            if (wait > 0) {
                wait--;
                continue;
            }
            at = now.bed.flow[at];
            wait = at < 0 ? 0 : now.bed.eddy[at];
            int print = at < 0 ? 0 : now.bed.printedIn(at);
            if (print > 0 && letters < LETTERS_MOST) {
                tail = tail * 10 + print;
                tailLetters++;
                if (tailLetters >= letters) {
                    break;
                }
            }
        }
        return days;
    }

    /** Lets days pass with a drawn letter dropped ahead of each: the x behind them, with which the next time goes on. */
    private int passDrawnDays(int days, int firstX) {
        int x = firstX;
        for (int day = 0; day < days && hasRiver(); day++) {
            x = nextSeedling(x);
            int cell = drawOf(x) % now.bed.cells;
            x = nextSeedling(x);
            int letter = 1 + drawOf(x) % LETTER_KINDS;
            if (stream.water.scraps < SCRAPS_MOST) {
                stream.water.addScrap(cell, letter);
            }
            stream.passDay();
        }
        return x;
    }

    private static int nextSeedling(int x) {
        return (int) ((x * 1103515245L + 12345L) % 2147483648L);
    }

    private static int drawOf(int x) {
        return x / 65536;
    }

    private static int commonDivisor(int a, int b) {
        int high = a;
        int low = b;
        // 64 steps are far more than Euclid needs for numbers of 31 bits
        for (int i = 0; i < 64 && low > 0; i++) {
            int rest = high % low;
            high = low;
            low = rest;
        }
        return high;
    }

    /** The bytes fed, and a cursor that reads them word by word and keeps the first fault. */
    private static final class Tape {
        private static final int END = -1;

        final int[] bytes = new int[TAPE_MOST];
        int length = 0;
        int at = 0;
        /** Where the number or word read last begins. */
        int mark = 0;
        /** 0: none yet. */
        int fault = 0;

        void add(int four) {
            for (int shift = 24; shift >= 0 && length < TAPE_MOST; shift -= 8) {
                bytes[length] = four >>> shift & 255;
                length++;
            }
        }

        void rewind() {
            at = 0;
            mark = 0;
            fault = 0;
        }

        /** Always false, so that a reader can give up with it. */
        boolean wrong(int place, int kind) {
            if (fault == 0) {
                fault = 1 + 8 * place + kind;
            }
            return false;
        }

        private boolean isSmall(int place) {
            return place < length && bytes[place] >= 'a' && bytes[place] <= 'z';
        }

        /** The next byte that is no blank; the cursor stands on it then. */
        int peek() {
            while (at < length && bytes[at] == ' ') {
                at++;
            }
            return at < length ? bytes[at] : END;
        }

        /** Whether another clause is told; what stands behind one else is the end, or a fault. */
        boolean goesOn() {
            int next = peek();
            if (next == ';') {
                at++;
                return true;
            }
            return next != END && wrong(at, FAULT_SYNTAX);
        }

        /** The number at the cursor, NONE if it is faulty. */
        int readNumber() {
            peek();
            mark = at;
            int value = 0;
            int digits = 0;
            while (at < length && bytes[at] >= '0' && bytes[at] <= '9') {
                value = digits < DIGITS_MOST ? value * 10 + bytes[at] - '0' : value;
                digits++;
                at++;
            }
            if (digits == 0 || digits > DIGITS_MOST) {
                wrong(mark, digits == 0 ? FAULT_SYNTAX : FAULT_NUMBER);
                return NONE;
            }
            return value;
        }

        int readNumberFrom(int low, int high) {
            int value = readNumber();
            if (value != NONE && (value < low || value > high)) {
                wrong(mark, FAULT_NUMBER);
                return NONE;
            }
            return value;
        }

        /** The letters at the cursor as a text, NONE if they are faulty. */
        int readLetters(int most) {
            peek();
            if (!isSmall(at)) {
                wrong(at, FAULT_SYNTAX);
                return NONE;
            }
            int value = 0;
            for (int letters = 0; letters <= most && isSmall(at); letters++) {
                if (letters == most || bytes[at] >= 'a' + LETTER_KINDS) {
                    wrong(at, FAULT_SYNTAX);
                    return NONE;
                }
                value = value * 10 + bytes[at] - 'a' + 1;
                at++;
            }
            return value;
        }

        /** Which word of the list (blanks between) stands at the cursor, NONE if none does; a fault then. */
        int readWord(String list) {
            peek();
            mark = at;
            int number = 0;
            int from = 0;
            for (int i = 0; i <= list.length(); i++) {
                if (i == list.length() || list.charAt(i) == ' ') {
                    if (standsHere(list, from, i)) {
                        at += i - from;
                        return number;
                    }
                    number++;
                    from = i + 1;
                }
            }
            wrong(mark, FAULT_SYNTAX);
            return NONE;
        }

        /** Whether the word stands at the cursor, which goes behind it then. */
        boolean takes(String word) {
            peek();
            if (!standsHere(word, 0, word.length())) {
                return false;
            }
            mark = at;
            at += word.length();
            return true;
        }

        private boolean standsHere(String list, int from, int to) {
            int behind = at + to - from;
            if (behind > length || behind < length && bytes[behind] >= 'a' && bytes[behind] <= 'z') {
                return false;
            }
            for (int i = from; i < to; i++) {
                if (list.charAt(i) != bytes[at + i - from]) {
                    return false;
                }
            }
            return true;
        }
    }

    /** Reads a river's text into a bed and water of its own, which hold only while there is no fault. */
    private static final class RiverText {
        private static final String WORDS = "river flow mouth eddy mill dam net scrap";
        private static final int RIVER = 0;
        private static final int FLOW = 1;
        private static final int MOUTH = 2;
        private static final int EDDY = 3;
        private static final int MILL = 4;
        private static final int DAM = 5;
        private static final int NET = 6;
        private static final int SCRAP = 7;

        final Bed bed = new Bed();
        final Water water = new Water();

        /** The fault, 0 if there is none. */
        int read(Tape tape) {
            tape.rewind();
            bed.start(0);
            water.start();
            for (int clause = 0; clause <= RIVER_CLAUSES; clause++) {
                if (!readClause(tape, clause) || !tape.goesOn()) {
                    break;
                }
            }
            return tape.fault;
        }

        private boolean readClause(Tape tape, int clause) {
            int word = tape.readWord(WORDS);
            if (word == NONE) {
                return false;
            }
            if (clause >= RIVER_CLAUSES || (clause == 0) != (word == RIVER) || isFull(word)) {
                return tape.wrong(tape.mark, FAULT_CLAUSE);
            }
            return word == RIVER ? readRiver(tape) : readOfCell(tape, word);
        }

        private boolean readRiver(Tape tape) {
            int cells = tape.readNumberFrom(CELLS_LEAST, CELLS_MOST);
            if (cells == NONE) {
                return false;
            }
            bed.start(cells);
            return true;
        }

        private boolean readOfCell(Tape tape, int word) {
            int cell = tape.readNumberFrom(0, bed.cells - 1);
            if (cell == NONE) {
                return false;
            }
            if (isTaken(word, cell)) {
                return tape.wrong(tape.mark, FAULT_NUMBER);
            }
            int second = readSecond(tape, word);
            if (second == NONE) {
                return false;
            }
            if (word == FLOW && second == cell) {
                return tape.wrong(tape.mark, FAULT_NUMBER);
            }
            tell(word, cell, second);
            return true;
        }

        /** What the clause tells of its cell, NONE if it is faulty; 0 of clauses that tell no more. */
        private int readSecond(Tape tape, int word) {
            switch (word) {
                case FLOW:
                    return tape.readNumberFrom(0, bed.cells - 1);
                case EDDY:
                    return tape.readNumberFrom(1, EDDY_MOST);
                case MILL:
                    return tape.readLetters(1);
                case NET:
                    return tape.readNumberFrom(1, MESH_MOST);
                case SCRAP:
                    return tape.readLetters(LETTERS_MOST);
                default:
                    return 0;
            }
        }

        private void tell(int word, int cell, int second) {
            switch (word) {
                case FLOW:
                    bed.flow[cell] = second;
                    break;
                case MOUTH:
                    bed.flow[cell] = SEA;
                    break;
                case EDDY:
                    bed.eddy[cell] = second;
                    break;
                case MILL:
                    bed.addMill(cell, second);
                    break;
                case DAM:
                    bed.addDam(cell);
                    break;
                case NET:
                    water.mesh[cell] = second;
                    break;
                default:
                    water.addScrap(cell, second);
                    break;
            }
        }

        private boolean isTaken(int word, int cell) {
            switch (word) {
                case MILL:
                    return bed.millAt[cell] >= 0;
                case DAM:
                    return bed.damAt[cell] >= 0;
                case NET:
                    return water.mesh[cell] > 0;
                default:
                    return false;
            }
        }

        private boolean isFull(int word) {
            switch (word) {
                case MILL:
                    return bed.mills >= MILLS_MOST;
                case DAM:
                    return bed.dams >= DAMS_MOST;
                case NET:
                    return water.countNets() >= NETS_MOST;
                case SCRAP:
                    return water.scraps >= TOLD_SCRAPS_MOST;
                default:
                    return false;
            }
        }
    }

    /** Reads a rule's text into code for a Law: each sum and test behind what it is made of. */
    private static final class RuleText {
        final int[] code = new int[TAPE_MOST];
        int length = 0;
        /** Values and facts made of a sign so far. */
        int pieces = 0;

        Law toLaw() {
            return new Law(Arrays.copyOf(code, length));
        }

        /** The fault, 0 if there is none. */
        int read(Tape tape) {
            tape.rewind();
            length = 0;
            pieces = 0;
            for (int clause = 0; clause <= RULE_CLAUSES; clause++) {
                if (tape.readWord("join") == NONE) {
                    break;
                }
                if (clause == RULE_CLAUSES) {
                    tape.wrong(tape.mark, FAULT_CLAUSE);
                    break;
                }
                if (!readTest(tape, 0)) {
                    break;
                }
                if (clause > 0) {
                    write(Law.OR);
                }
                if (!tape.goesOn()) {
                    break;
                }
            }
            return tape.fault;
        }

        /** Each piece of code comes of a byte of the tape or more, so that the row has room for all. */
        private void write(int piece) {
            if (length < code.length) {
                code[length] = piece;
                length++;
            }
        }

        private boolean countPiece(Tape tape, int place) {
            if (pieces >= PIECES_MOST) {
                return tape.wrong(place, FAULT_PIECES);
            }
            pieces++;
            return true;
        }

        private boolean readTest(Tape tape, int depth) {
            boolean and = false;
            boolean or = false;
            for (int facts = 0; facts <= PIECES_MOST; facts++) {
                if (!readFact(tape, depth)) {
                    return false;
                }
                if (and) {
                    write(Law.AND);
                }
                and = tape.takes("and");
                if (!and) {
                    if (or) {
                        write(Law.OR);
                    }
                    or = tape.takes("or");
                    if (!or) {
                        return true;
                    }
                }
            }
            return tape.wrong(tape.at, FAULT_PIECES);
        }

        private boolean readFact(Tape tape, int depth) {
            if (tape.peek() == '[') {
                return readBrackets(tape, depth);
            }
            if (tape.takes("not")) {
                if (depth >= DEPTH_MOST) {
                    return tape.wrong(tape.mark, FAULT_DEEP);
                }
                if (!readFact(tape, depth + 1)) {
                    return false;
                }
                write(Law.NOT);
                return true;
            }
            if (!readSum(tape)) {
                return false;
            }
            int sign = readSign(tape);
            if (sign == NONE || !readSum(tape)) {
                return false;
            }
            write(sign);
            return true;
        }

        private boolean readBrackets(Tape tape, int depth) {
            if (depth >= DEPTH_MOST) {
                return tape.wrong(tape.at, FAULT_DEEP);
            }
            tape.at++;
            if (!readTest(tape, depth + 1)) {
                return false;
            }
            if (tape.peek() != ']') {
                return tape.wrong(tape.at, FAULT_SYNTAX);
            }
            tape.at++;
            return true;
        }

        private int readSign(Tape tape) {
            int first = tape.peek();
            int place = tape.at;
            if (first != '<' && first != '=' && first != '>') {
                tape.wrong(place, FAULT_SYNTAX);
                return NONE;
            }
            if (!countPiece(tape, place)) {
                return NONE;
            }
            tape.at++;
            if (first == '=') {
                return Law.SAME;
            }
            boolean wide = tape.at < tape.length && tape.bytes[tape.at] == '=';
            if (wide) {
                tape.at++;
            }
            if (first == '<') {
                return wide ? Law.MOST : Law.LESS;
            }
            return wide ? Law.LEAST : Law.MORE;
        }

        private boolean readSum(Tape tape) {
            int adding = 0;
            int timing = 0;
            for (int values = 0; values <= PIECES_MOST; values++) {
                if (!readValue(tape)) {
                    return false;
                }
                if (timing != 0) {
                    write(timing);
                }
                timing = timesSign(tape.peek());
                if (timing == 0) {
                    if (adding != 0) {
                        write(adding);
                    }
                    adding = addSign(tape.peek());
                    if (adding == 0) {
                        return true;
                    }
                }
                tape.at++;
            }
            return tape.wrong(tape.at, FAULT_PIECES);
        }

        private static int timesSign(int sign) {
            switch (sign) {
                case '*':
                    return Law.TIMES;
                case '/':
                    return Law.PER;
                case '%':
                    return Law.REST;
                default:
                    return 0;
            }
        }

        private static int addSign(int sign) {
            switch (sign) {
                case '+':
                    return Law.PLUS;
                case '-':
                    return Law.MINUS;
                default:
                    return 0;
            }
        }

        private boolean readValue(Tape tape) {
            int first = tape.peek();
            int piece;
            if (first >= '0' && first <= '9') {
                piece = tape.readNumber();
                if (piece == NONE) {
                    return false;
                }
            } else {
                int word = tape.readWord(Law.WORDS);
                if (word == NONE) {
                    return false;
                }
                piece = Law.WORD - word;
            }
            if (!countPiece(tape, tape.mark)) {
                return false;
            }
            write(piece);
            return true;
        }
    }

    /** A rule as code for a stack: numbers stand for themselves, below 0 are words and signs. */
    private static final class Law {
        static final String WORDS = "long other last first same cell day one later many wait";
        static final int LONG = 0;
        static final int OTHER = 1;
        static final int LAST = 2;
        static final int FIRST = 3;
        static final int SAME_LETTERS = 4;
        static final int CELL = 5;
        static final int TODAY = 6;
        static final int ONE = 7;
        static final int LATER = 8;
        static final int MANY = 9;
        static final int WAIT = 10;
        static final int WORD_COUNT = 11;

        static final int WORD = -1;
        static final int PLUS = -12;
        static final int MINUS = -13;
        static final int TIMES = -14;
        static final int PER = -15;
        static final int REST = -16;
        static final int LESS = -17;
        static final int MOST = -18;
        static final int SAME = -19;
        static final int LEAST = -20;
        static final int MORE = -21;
        static final int AND = -22;
        static final int OR = -23;
        static final int NOT = -24;

        final int[] code;

        Law(int[] code) {
            this.code = code;
        }

        /** Whether it holds for what the words say; the stack has room for a value of each piece. */
        boolean holds(long[] words, long[] stack) {
            int top = 0;
            for (int i = 0; i < code.length; i++) {
                int piece = code[i];
                if (piece > PLUS) {
                    if (top >= stack.length || WORD - piece >= words.length) {
                        return false;
                    }
                    stack[top] = piece >= 0 ? piece : words[WORD - piece];
                    top++;
                } else if (piece == NOT) {
                    if (top < 1) {
                        return false;
                    }
                    stack[top - 1] = 1 - stack[top - 1];
                } else {
                    if (top < 2) {
                        return false;
                    }
                    top--;
                    stack[top - 1] = reckon(piece, stack[top - 1], stack[top]);
                }
            }
            return top == 1 && stack[0] != 0;
        }

        private static long reckon(int sign, long a, long b) {
            switch (sign) {
                case PLUS:
                    return a + b;
                case MINUS:
                    return a - b;
                case TIMES:
                    return a * b;
                case PER:
                    return b == 0 ? 0 : a / b;
                case REST:
                    return b == 0 ? 0 : a % b;
                case LESS:
                    return a < b ? 1 : 0;
                case MOST:
                    return a <= b ? 1 : 0;
                case SAME:
                    return a == b ? 1 : 0;
                case LEAST:
                    return a >= b ? 1 : 0;
                case MORE:
                    return a > b ? 1 : 0;
                case AND:
                    return a & b;
                default:
                    return a | b;
            }
        }
    }

    /** What no act changes: how cells flow, eddies, mills, where dams are. No cells: no river. */
    private static final class Bed {
        int cells = 0;
        int mills = 0;
        int dams = 0;
        final int[] flow = new int[CELLS_MOST];
        final int[] eddy = new int[CELLS_MOST];
        /** Of a cell the number of its mill, of its dam; NONE. */
        final int[] millAt = new int[CELLS_MOST];
        final int[] damAt = new int[CELLS_MOST];
        final int[] millLetter = new int[MILLS_MOST];

        void start(int cellCount) {
            cells = cellCount;
            mills = 0;
            dams = 0;
            for (int cell = 0; cell < CELLS_MOST; cell++) {
                flow[cell] = cell + 1 < cellCount ? cell + 1 : SEA;
                eddy[cell] = 0;
                millAt[cell] = NONE;
                damAt[cell] = NONE;
            }
        }

        void takeFrom(Bed other) {
            cells = other.cells;
            mills = other.mills;
            dams = other.dams;
            System.arraycopy(other.flow, 0, flow, 0, CELLS_MOST);
            System.arraycopy(other.eddy, 0, eddy, 0, CELLS_MOST);
            System.arraycopy(other.millAt, 0, millAt, 0, CELLS_MOST);
            System.arraycopy(other.damAt, 0, damAt, 0, CELLS_MOST);
            System.arraycopy(other.millLetter, 0, millLetter, 0, MILLS_MOST);
        }

        void addMill(int cell, int letter) {
            if (mills < MILLS_MOST) {
                millAt[cell] = mills;
                millLetter[mills] = letter;
                mills++;
            }
        }

        void addDam(int cell) {
            if (dams < DAMS_MOST) {
                damAt[cell] = dams;
                dams++;
            }
        }

        /** The letter that the cell's mill prints, 0 without a mill. */
        int printedIn(int cell) {
            int mill = millAt[cell];
            return mill < 0 ? 0 : millLetter[mill];
        }

        /** The cells, as bits, that water of the cell goes round in at last; 0: it comes to the sea. */
        int ringBelow(int cell) {
            int at = cell;
            for (int step = 0; step < cells && at >= 0; step++) {
                at = flow[at];
            }
            int ring = 0;
            for (int step = 0; step < cells && at >= 0; step++) {
                ring |= 1 << at;
                at = flow[at];
            }
            return ring;
        }
    }

    /** What days and acts change: the day, scraps, nets, which dams are shut, letters printed. */
    private static final class Water {
        int today = 0;
        int scraps = 0;
        /** Dams that are shut, as bits of their numbers. */
        int shut = 0;
        final int[] place = new int[SCRAP_ROOM];
        final int[] text = new int[SCRAP_ROOM];
        final int[] size = new int[SCRAP_ROOM];
        /** Which letters the text has, as bits. */
        final int[] kinds = new int[SCRAP_ROOM];
        final int[] wait = new int[SCRAP_ROOM];
        final int[] fate = new int[SCRAP_ROOM];
        /** The cell of the net, or the scrap that it is joined to; NONE. */
        final int[] holder = new int[SCRAP_ROOM];
        final int[] leftOn = new int[SCRAP_ROOM];
        final int[] mesh = new int[CELLS_MOST];
        final int[] printed = new int[MILLS_MOST];

        void start() {
            today = 0;
            scraps = 0;
            shut = 0;
            Arrays.fill(mesh, 0);
            Arrays.fill(printed, 0);
        }

        void takeFrom(Water other) {
            today = other.today;
            scraps = other.scraps;
            shut = other.shut;
            System.arraycopy(other.place, 0, place, 0, SCRAP_ROOM);
            System.arraycopy(other.text, 0, text, 0, SCRAP_ROOM);
            System.arraycopy(other.size, 0, size, 0, SCRAP_ROOM);
            System.arraycopy(other.kinds, 0, kinds, 0, SCRAP_ROOM);
            System.arraycopy(other.wait, 0, wait, 0, SCRAP_ROOM);
            System.arraycopy(other.fate, 0, fate, 0, SCRAP_ROOM);
            System.arraycopy(other.holder, 0, holder, 0, SCRAP_ROOM);
            System.arraycopy(other.leftOn, 0, leftOn, 0, SCRAP_ROOM);
            System.arraycopy(other.mesh, 0, mesh, 0, CELLS_MOST);
            System.arraycopy(other.printed, 0, printed, 0, MILLS_MOST);
        }

        int addScrap(int cell, int letters) {
            int scrap = scraps;
            if (scrap >= SCRAP_ROOM) {
                return NONE;
            }
            scraps++;
            place[scrap] = cell;
            wait[scrap] = 0;
            fate[scrap] = ON_RIVER;
            holder[scrap] = NONE;
            leftOn[scrap] = NONE;
            write(scrap, letters);
            return scrap;
        }

        void write(int scrap, int letters) {
            text[scrap] = letters;
            size[scrap] = 0;
            kinds[scrap] = 0;
            int rest = letters;
            for (int i = 0; i < LETTERS_MOST && rest > 0; i++) {
                kinds[scrap] |= 1 << rest % 10;
                size[scrap]++;
                rest /= 10;
            }
        }

        void printBehind(int scrap, int letter) {
            text[scrap] = text[scrap] * 10 + letter;
            kinds[scrap] |= 1 << letter;
            size[scrap]++;
        }

        void join(int one, int later) {
            text[one] = text[one] * TENS[size[later]] + text[later];
            size[one] += size[later];
            kinds[one] |= kinds[later];
            leave(later, JOINED, one);
        }

        void leave(int scrap, int how, int whose) {
            place[scrap] = NONE;
            wait[scrap] = 0;
            fate[scrap] = how;
            holder[scrap] = whose;
            leftOn[scrap] = today;
        }

        int firstLetter(int scrap) {
            int behind = size[scrap] - 1;
            return behind < 0 ? 0 : text[scrap] / TENS[behind];
        }

        int lastLetter(int scrap) {
            return text[scrap] % 10;
        }

        int scrapsIn(int cell) {
            int bits = 0;
            for (int scrap = 0; scrap < scraps; scrap++) {
                if (place[scrap] == cell) {
                    bits |= 1 << scrap;
                }
            }
            return bits;
        }

        int onRiver() {
            int bits = 0;
            for (int scrap = 0; scrap < scraps; scrap++) {
                if (place[scrap] >= 0) {
                    bits |= 1 << scrap;
                }
            }
            return bits;
        }

        /** The cells, as bits, in which at least so many scraps (1 or 2) are. */
        int cellsWith(int least) {
            int once = 0;
            int twice = 0;
            for (int scrap = 0; scrap < scraps; scrap++) {
                if (place[scrap] >= 0) {
                    int bit = 1 << place[scrap];
                    twice |= once & bit;
                    once |= bit;
                }
            }
            return least == 1 ? once : twice;
        }

        int countFate(int how) {
            int many = 0;
            for (int scrap = 0; scrap < scraps; scrap++) {
                if (fate[scrap] == how) {
                    many++;
                }
            }
            return many;
        }

        int countNets() {
            int many = 0;
            for (int cell = 0; cell < CELLS_MOST; cell++) {
                if (mesh[cell] > 0) {
                    many++;
                }
            }
            return many;
        }

        int countPrinted() {
            int many = 0;
            for (int mill = 0; mill < MILLS_MOST; mill++) {
                many += printed[mill];
            }
            return many;
        }

        /** What becomes of the scrap, or of the one to which it is joined in the end. */
        int lastFate(int scrap) {
            int at = scrap;
            for (int step = 0; step < SCRAP_ROOM && fate[at] == JOINED && holder[at] >= 0; step++) {
                at = holder[at];
            }
            return fate[at];
        }
    }

    /** The water as it was ahead of the last acts; the oldest is lost when one more comes. */
    private static final class Past {
        final Water[] waters = new Water[ACTS_MOST];
        int oldest = 0;
        int kept = 0;

        void forget() {
            oldest = 0;
            kept = 0;
        }

        void keep(Water water) {
            if (kept == ACTS_MOST) {
                oldest = (oldest + 1) % ACTS_MOST;
                kept--;
            }
            int slot = (oldest + kept) % ACTS_MOST;
            if (waters[slot] == null) {
                waters[slot] = new Water();
            }
            waters[slot].takeFrom(water);
            kept++;
        }

        void giveBack(Water water) {
            if (kept == 0) {
                return;
            }
            kept--;
            Water last = waters[(oldest + kept) % ACTS_MOST];
            if (last != null) {
                water.takeFrom(last);
            }
        }

        void takeFrom(Past other) {
            forget();
            for (int i = 0; i < other.kept; i++) {
                Water water = other.waters[(other.oldest + i) % ACTS_MOST];
                if (water != null) {
                    keep(water);
                }
            }
        }
    }

    /** All that an image holds. */
    private static final class World {
        final Bed bed = new Bed();
        final Water water = new Water();
        final Past past = new Past();
        int inForce = NONE;
        /** The x of the draws. */
        int seedling = 0;

        void takeFrom(World other) {
            bed.takeFrom(other.bed);
            water.takeFrom(other.water);
            past.takeFrom(other.past);
            inForce = other.inForce;
            seedling = other.seedling;
        }
    }

    /** Lets days pass, on the water itself or on a copy where something is looked at. */
    private static final class Stream {
        private final Water look = new Water();
        private final long[] words = new long[Law.WORD_COUNT];
        private final long[] stack = new long[PIECES_MOST];
        Bed bed = null;
        Water water = look;
        Law law = null;
        /** Scraps that left the river since it began. */
        int toSea = 0;
        int toNets = 0;
        int toOthers = 0;

        void begin(Bed itsBed, Water itsWater, Law itsLaw) {
            bed = itsBed;
            water = itsWater;
            law = itsLaw;
            toSea = 0;
            toNets = 0;
            toOthers = 0;
        }

        void beginLook(World world, Law itsLaw) {
            look.takeFrom(world.water);
            begin(world.bed, look, itsLaw);
        }

        /** Days with nobody on the river change but the date, which nobody asks for then. */
        void passDays(int days) {
            for (int day = 0; day < days; day++) {
                if (water.cellsWith(1) == 0) {
                    skipDays(days - day);
                    return;
                }
                passDay();
            }
        }

        private void skipDays(int days) {
            water.today = Math.min(water.today + days, LAST_DAY);
        }

        /** Lets days pass as long as the scrap is on the river: behind that nothing of it changes. */
        void follow(int scrap, int days) {
            for (int day = 0; day < days && water.place[scrap] >= 0; day++) {
                passDay();
            }
        }

        int nthIntoSea(int n) {
            int left = n;
            for (int day = 0; day < DAYS_AHEAD; day++) {
                int before = water.onRiver();
                if (before == 0) {
                    return NONE;
                }
                passDay();
                for (int scrap = 0; scrap < water.scraps; scrap++) {
                    if ((before >> scrap & 1) == 1 && water.fate[scrap] == IN_SEA) {
                        if (left == 0) {
                            return scrap;
                        }
                        left--;
                    }
                }
            }
            return NONE;
        }

        void passDay() {
            if (bed == null) {
                return;
            }
            for (int scrap = 0; scrap < water.scraps; scrap++) {
                if (water.place[scrap] >= 0) {
                    drift(scrap);
                }
            }
            int crowded = water.cellsWith(2);
            for (int cell = 0; cell < CELLS_MOST && crowded >> cell != 0; cell++) {
                boolean more = (crowded >> cell & 1) == 1;
                for (int joins = 0; joins < SCRAP_ROOM && more; joins++) {
                    more = joinFirst(cell);
                }
            }
            catchAll();
            skipDays(1);
        }

        private void drift(int scrap) {
            int from = water.place[scrap];
            int dam = bed.damAt[from];
            if (dam >= 0 && (water.shut >> dam & 1) == 1) {
                return;
            }
            if (water.wait[scrap] > 0) {
                water.wait[scrap]--;
                return;
            }
            int into = bed.flow[from];
            if (into < 0) {
                water.leave(scrap, IN_SEA, NONE);
                toSea++;
                return;
            }
            water.place[scrap] = into;
            water.wait[scrap] = bed.eddy[into];
            int mill = bed.millAt[into];
            if (mill >= 0 && water.size[scrap] < LETTERS_MOST) {
                water.printBehind(scrap, bed.millLetter[mill]);
                water.printed[mill]++;
            }
        }

        private boolean joinFirst(int cell) {
            int many = Integer.bitCount(water.scrapsIn(cell));
            for (int one = 0; one < water.scraps; one++) {
                if (water.place[one] != cell) {
                    continue;
                }
                for (int later = one + 1; later < water.scraps; later++) {
                    if (water.place[later] == cell && mayJoin(one, later, many)) {
                        water.join(one, later);
                        toOthers++;
                        return true;
                    }
                }
            }
            return false;
        }

        private boolean mayJoin(int one, int later, int many) {
            if (water.size[one] + water.size[later] > LETTERS_MOST) {
                return false;
            }
            if (law == null) {
                return water.lastLetter(one) == water.firstLetter(later);
            }
            words[Law.LONG] = water.size[one];
            words[Law.OTHER] = water.size[later];
            words[Law.LAST] = water.lastLetter(one);
            words[Law.FIRST] = water.firstLetter(later);
            words[Law.SAME_LETTERS] = Integer.bitCount(water.kinds[one] & water.kinds[later]);
            words[Law.CELL] = water.place[one];
            words[Law.TODAY] = water.today;
            words[Law.ONE] = one;
            words[Law.LATER] = later;
            words[Law.MANY] = many;
            words[Law.WAIT] = water.wait[one];
            return law.holds(words, stack);
        }

        private void catchAll() {
            for (int scrap = 0; scrap < water.scraps; scrap++) {
                int cell = water.place[scrap];
                if (cell >= 0 && water.mesh[cell] > 0 && water.size[scrap] >= water.mesh[cell]) {
                    water.leave(scrap, CAUGHT, cell);
                    toNets++;
                }
            }
        }
    }

    /**
     * Looks for the fewest cells for nets. A net in a cell where no scrap would have rested changes
     * nothing, so a set of cells is only tried if each of them is touched with nets in the others.
     */
    private static final class NetSearch {
        private static final int NO_CELL = CELLS_MOST;
        private static final int SPAN = CELLS_MOST + 1;
        /** Sets of 3 of 16 cells. */
        private static final int SETS_MOST = 560;

        /** Of a set of up to two cells: cells where scraps rest with nets in these. */
        private final int[] touched = new int[SPAN * SPAN];
        private int rested = 0;

        /** The least set of cells as bits, NONE if there is none. */
        int fewest(Stream stream, World world, Law law, int wanted) {
            int free = 0;
            for (int cell = 0; cell < world.bed.cells; cell++) {
                free |= world.water.mesh[cell] == 0 ? 1 << cell : 0;
            }
            for (int size = 0; size <= FLEET_MOST; size++) {
                int set = (1 << size) - 1;
                for (int i = 0; i < SETS_MOST && set >> world.bed.cells == 0; i++) {
                    if ((set & ~free) == 0 && !isIdle(set, size)) {
                        stream.beginLook(world, law);
                        if (getsAll(stream, set, wanted)) {
                            return set;
                        }
                        remember(set, size);
                    }
                    set = nextOfSize(set);
                }
            }
            return NONE;
        }

        /** The next higher number with as many bits; for 0, which has none, one that is no set of cells. */
        private static int nextOfSize(int set) {
            if (set == 0) {
                return 1 << CELLS_MOST;
            }
            int low = set & -set;
            int raised = set + low;
            return raised | (set ^ raised) >> 2 + Integer.numberOfTrailingZeros(low);
        }

        private boolean isIdle(int set, int size) {
            int rest = set;
            for (int i = 0; i < FLEET_MOST && rest != 0; i++) {
                int cell = Integer.numberOfTrailingZeros(rest);
                rest &= rest - 1;
                int others = set & ~(1 << cell);
                rested = touched[indexOf(others)];
                if ((rested >> cell & 1) == 0) {
                    remember(set, size);
                    return true;
                }
            }
            return false;
        }

        private void remember(int set, int size) {
            if (size < FLEET_MOST) {
                touched[indexOf(set)] = rested;
            }
        }

        private static int indexOf(int set) {
            if (set == 0) {
                return NO_CELL * SPAN + NO_CELL;
            }
            int low = Integer.numberOfTrailingZeros(set);
            int others = set & set - 1;
            int high = others == 0 ? NO_CELL : Integer.numberOfTrailingZeros(others);
            return Math.min(high, NO_CELL) * SPAN + Math.min(low, NO_CELL);
        }

        private boolean getsAll(Stream stream, int set, int wanted) {
            Water water = stream.water;
            for (int cell = 0; cell < CELLS_MOST; cell++) {
                if ((set >> cell & 1) == 1) {
                    water.mesh[cell] = 1;
                }
            }
            rested = 0;
            for (int day = 0; day < DAYS_AHEAD && isOpen(water, wanted); day++) {
                stream.passDay();
                rested |= water.cellsWith(1);
            }
            for (int scrap = 0; scrap < water.scraps; scrap++) {
                if ((wanted >> scrap & 1) == 1 && water.lastFate(scrap) != CAUGHT) {
                    return false;
                }
            }
            return true;
        }

        /** Whether some wanted scrap is still on the river and none is lost to the sea. */
        private static boolean isOpen(Water water, int wanted) {
            boolean open = false;
            for (int scrap = 0; scrap < water.scraps; scrap++) {
                if ((wanted >> scrap & 1) == 1) {
                    int fate = water.lastFate(scrap);
                    if (fate == IN_SEA) {
                        return false;
                    }
                    open |= fate == ON_RIVER;
                }
            }
            return open;
        }
    }

    /** Orders of scraps by their edges, counted over the sets of those that are laid already. */
    private static final class Orders {
        private final int[] members = new int[ROWS_MOST];
        private final int[] firsts = new int[ROWS_MOST];
        private final int[] lasts = new int[ROWS_MOST];
        /** Of a set laid and the last one of it: in how many ways the others can follow. */
        private final int[] ways = new int[ROWS_MOST << ROWS_MOST];
        private int size = 0;

        void lay(Water water, int scraps) {
            size = 0;
            for (int scrap = 0; scrap < water.scraps; scrap++) {
                if ((scraps >> scrap & 1) == 1 && size < ROWS_MOST) {
                    members[size] = scrap;
                    firsts[size] = water.firstLetter(scrap);
                    lasts[size] = water.lastLetter(scrap);
                    size++;
                }
            }
            int all = (1 << size) - 1;
            for (int laid = all; laid > 0; laid--) {
                for (int last = 0; last < size; last++) {
                    if ((laid >> last & 1) == 1) {
                        ways[laid * ROWS_MOST + last] = laid == all ? 1 : waysOn(laid, last);
                    }
                }
            }
        }

        private int waysOn(int laid, int last) {
            int many = 0;
            for (int next = 0; next < size; next++) {
                if (mayFollow(laid, last, next)) {
                    many += ways[(laid | 1 << next) * ROWS_MOST + next];
                }
            }
            return many;
        }

        /** A last of NONE: nothing is laid yet, and any may begin. */
        private boolean mayFollow(int laid, int last, int next) {
            return (laid >> next & 1) == 0 && (last < 0 || lasts[last] == firsts[next]);
        }

        int countAll() {
            return size == 0 ? 1 : waysOn(0, NONE);
        }

        /** The scrap in that place (0 and on) of the first order, NONE if there is none. */
        int inFirst(int place) {
            if (place >= size) {
                return NONE;
            }
            int laid = 0;
            int last = NONE;
            for (int i = 0; i <= place; i++) {
                last = leastNext(laid, last);
                if (last < 0) {
                    return NONE;
                }
                laid |= 1 << last;
            }
            return last < 0 ? NONE : members[last];
        }

        private int leastNext(int laid, int last) {
            for (int next = 0; next < size; next++) {
                if (mayFollow(laid, last, next) && ways[(laid | 1 << next) * ROWS_MOST + next] > 0) {
                    return next;
                }
            }
            return NONE;
        }
    }
}
