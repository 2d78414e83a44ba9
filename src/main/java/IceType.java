/**
 * Letters of ice: cast, laid into pages, pressed sheet by sheet, melting all the while.
 * What each call promises is said in the project's document; README.md tells where.
 */
public final class IceType {
    private static final int LOW = -1000000000;
    private static final int BEYOND = LOW - 1;
    private static final int NONE = LOW - 2;
    private static final int STATE = LOW - 3;
    private static final int FULL = LOW - 4;
    private static final int KIND = LOW - 5;
    private static final int PARTED = LOW - 6;
    private static final int ERRORS = 6;

    /** What a tape, a word or a decree that is at fault answers, less the place; it is no ERROR. */
    private static final int FAULTY = -10;

    private static final int THIN = 1;
    private static final int BOLD = 2;
    private static final int SALTED = 3;
    private static final int CAPITAL = 4;
    private static final int OLD = 5;
    private static final int TOLD = 6;
    private static final int KINDS = 7;
    private static final int[] ABOVE = {-1, 0, 0, 1, 2, 0, 0};

    private static final int LETTERS = 24;
    private static final int ROOMS = 4;
    private static final int PAGES = 4;
    private static final int PLACES = 8;
    private static final int WORDS = 8;
    private static final int WORD_BYTES = 8;
    private static final int TAPE_BYTES = 60;
    private static final int WAITING = 24;
    private static final int PLATES = 4;
    private static final int PLATE_NUMBERS = 24;
    private static final int GLYPHS = 26;
    private static final int MOST_M = 9;
    private static final int MOST_ICE = 999;
    private static final int MOST_AGE = 99;
    private static final int MOST_WATER = 99999;
    private static final int MOST_SALT = 9999;
    private static final int MOST_SHEETS = 9999;
    private static final int LEAST_COLD = -9;
    private static final int MOST_COLD = 20;
    private static final int BEST_READ = 9;
    private static final int CLEAR_FROM = 3;
    private static final int MOST_AHEAD = 99;

    private static final int USES = 2;
    private static final int OPEN_AT_ONCE = 5;
    private static final String DRIPS_NAMES = "icam";
    private static final String SEES_NAMES = "rsg";

    private final Shop now = new Shop();
    private final Shop kept = new Shop();
    private int imagesKept;
    private final Ahead ahead = new Ahead(now);
    private final Rows rows = new Rows(now, ahead);
    private final LawReader reader = new LawReader(now.tape);
    private final Voices voices = new Voices();
    private final Plate[] plates = new Plate[PLATES];
    private final int[] refusals = new int[ERRORS + 1];

    public IceType() {
        for (int i = 0; i < PLATES; i++) {
            plates[i] = new Plate();
        }
    }

    // ---- letters

    public int cast(int km, int glyph, int ice) {
        int error = now.castError(km, glyph, ice);
        return error != 0 ? refuse(error) : now.castLetter(km, glyph, ice);
    }

    public int letterIs(int letter, int what) {
        if (!now.hasLetter(letter) || !isWithin(what, 0, 9)) {
            return refuse(BEYOND);
        }
        Letter asked = now.letters[letter];
        return now.factOf(asked, now.sheetsAround(asked), what);
    }

    public int as(int letter, int kind) {
        if (!now.hasLetter(letter) || !isWithin(kind, 0, KINDS - 1)) {
            return refuse(BEYOND);
        }
        Letter asked = now.letters[letter];
        return asked.isOf(kind) ? asked.ice : refuse(KIND);
    }

    public int set(int letter, int what, int v) {
        if (!now.hasLetter(letter) || !isWithin(v, 0, mostToSet(what))) {
            return refuse(BEYOND);
        }
        return now.letters[letter].change(what, v);
    }

    public int melt(int letter) {
        if (!now.hasLetter(letter)) {
            return refuse(BEYOND);
        }
        Letter melting = now.letters[letter];
        if (melting.page >= 0) {
            return refuse(STATE);
        }
        int drops = melting.takeIce(melting.ice);
        now.dripInto(drops);
        return drops;
    }

    public int drink(int letter) {
        if (!now.hasLetter(letter)) {
            return refuse(BEYOND);
        }
        Letter drunk = now.letters[letter];
        int drops = drunk.takeIce(drunk.ice);
        now.mist += drops;
        return drops;
    }

    public int have(int what, int v) {
        if (isWithin(what, 0, ROOMS - 1) && isWithin(v, LEAST_COLD, MOST_COLD)) {
            int was = now.cold[what];
            now.cold[what] = v;
            return was;
        }
        if (what == 4 && isWithin(v, 0, MOST_WATER)) {
            int was = now.water;
            now.water = v;
            return was;
        }
        if (what == 5 && isWithin(v, 0, MOST_SALT)) {
            int was = now.salt;
            now.salt = v;
            return was;
        }
        return refuse(BEYOND);
    }

    // ---- texts, words

    public int feed(long word, int n) {
        if (!isWithin(n, 1, 8)) {
            return refuse(BEYOND);
        }
        if (now.tape.length + n > TAPE_BYTES) {
            return refuse(FULL);
        }
        for (int i = 0; i < n; i++) {
            now.tape.add((int) (word >>> (8 * i)) & 255);
        }
        return now.tape.length;
    }

    public int text(int use) {
        if (!isWithin(use, 0, USES - 1)) {
            return refuse(BEYOND);
        }
        int fault = reader.faultOfTape(use == 0 ? DRIPS_NAMES : SEES_NAMES);
        now.tape.clear();
        if (fault >= 0) {
            return FAULTY - fault;
        }
        now.lawOf(use).codes.takeFrom(reader.codes);
        return 1;
    }

    public int untell(int use) {
        if (!isWithin(use, 0, USES - 1)) {
            return refuse(BEYOND);
        }
        Law law = now.lawOf(use);
        int was = law.isTold() ? 1 : 0;
        law.codes.clear();
        return was;
    }

    public int word() {
        if (now.wordCount >= WORDS) {
            return refuse(FULL);
        }
        int fault = now.wordFault();
        int answer = fault >= 0 ? FAULTY - fault : now.wordCount;
        if (fault < 0) {
            now.words[now.wordCount].takeFrom(now.tape);
            now.wordCount++;
        }
        now.tape.clear();
        return answer;
    }

    public int decree() {
        int place = now.placeNotSet();
        now.tape.clear();
        return place;
    }

    // ---- pages

    public int lay(int page, int letter) {
        if (!isPage(page) || !now.hasLetter(letter)) {
            return refuse(BEYOND);
        }
        Letter laid = now.letters[letter];
        if (laid.page >= 0) {
            return refuse(STATE);
        }
        if (!now.pages[page].add(letter)) {
            return refuse(FULL);
        }
        laid.page = page;
        return now.pages[page].length;
    }

    public int sort(int page) {
        return isPage(page) ? now.emptyPage(page) : refuse(BEYOND);
    }

    public int pageIs(int page, int what) {
        if (!isPage(page) || !isWithin(what, 0, 2 + PLACES)) {
            return refuse(BEYOND);
        }
        Row places = now.pages[page];
        switch (what) {
            case 0: return places.length;
            case 1: return now.sheets[page];
            case 2: return now.seenOf(page);
            default: return what - 3 < places.length ? places.at(what - 3) : -1;
        }
    }

    public int press(int page, int n) {
        if (!isPage(page) || !isWithin(n, 1, MOST_AHEAD)) {
            return refuse(BEYOND);
        }
        if (now.sheets[page] + n > MOST_SHEETS) {
            return refuse(STATE);
        }
        int clear = 0;
        for (int i = 0; i < n; i++) {
            clear += now.pressSheet(page) ? 1 : 0;
        }
        return clear;
    }

    // ---- ahead

    public int run(int page, int n) {
        if (!isPage(page) || !isWithin(n, 0, MOST_AHEAD)) {
            return refuse(BEYOND);
        }
        ahead.startPage(page);
        return ahead.clearInARun(n);
    }

    public int lost(int letter) {
        if (!now.hasLetter(letter)) {
            return refuse(BEYOND);
        }
        Letter asked = now.letters[letter];
        if (asked.page < 0) {
            return refuse(STATE);
        }
        ahead.startLetter(asked);
        // One more than 99: the letter is looked at ahead of each sheet, so behind the 99th only then.
        int clear = ahead.clearInARun(MOST_AHEAD + 1);
        return clear <= MOST_AHEAD ? clear : refuse(NONE);
    }

    public int then(int letter, int n, int what) {
        if (!now.hasLetter(letter) || !isWithin(n, 0, MOST_AHEAD) || !isWithin(what, 0, 9)) {
            return refuse(BEYOND);
        }
        Letter asked = now.letters[letter];
        if (asked.page < 0) {
            return refuse(STATE);
        }
        ahead.startLetter(asked);
        for (int i = 0; i < n; i++) {
            ahead.passSheet();
        }
        return now.factOf(ahead.letters[0], ahead.sheets, what);
    }

    public int order(int n, int i) {
        if (!isWithin(n, 1, 20) || i < -1) {
            return refuse(BEYOND);
        }
        rows.tryTurns(n);
        rows.findBest();
        if (i == -1) {
            return rows.mostClear;
        }
        return i < rows.best.length ? rows.best.at(i) : refuse(NONE);
    }

    public int room(int page, int n) {
        if (!isPage(page) || !isWithin(n, 0, MOST_AHEAD)) {
            return refuse(BEYOND);
        }
        int best = 0;
        int mostClear = -1;
        for (int room = 0; room < ROOMS; room++) {
            ahead.startPage(page);
            ahead.bringTo(room);
            int clear = ahead.clearInARun(n);
            if (clear > mostClear) {
                mostClear = clear;
                best = room;
            }
        }
        return best;
    }

    public int needs(int letter, int n) {
        if (!now.hasLetter(letter) || !isWithin(n, 1, 30)) {
            return refuse(BEYOND);
        }
        Letter asked = now.letters[letter];
        if (asked.page < 0) {
            return refuse(STATE);
        }
        // A TEXT may make more ice read worse, so no search by halves is right here.
        for (int ice = 0; ice <= MOST_ICE; ice++) {
            ahead.startLetter(asked);
            ahead.letters[0].ice = ice;
            if (ahead.clearInARun(n) == n) {
                return ice;
            }
        }
        return refuse(NONE);
    }

    public int said(int page) {
        if (!isPage(page)) {
            return refuse(BEYOND);
        }
        int bits = 0;
        for (int i = 0; i < now.wordCount; i++) {
            if (now.mayHaveSaid(page, now.words[i])) {
                bits |= 1 << i;
            }
        }
        return bits;
    }

    public int inCase(int glyph) {
        return isWithin(glyph, 1, GLYPHS) ? now.caseOf(glyph) : refuse(BEYOND);
    }

    public int days(int n) {
        if (!isWithin(n, 1, 20)) {
            return refuse(BEYOND);
        }
        int gone = 0;
        for (int i = 0; i < n; i++) {
            gone += now.warmDay();
        }
        return gone;
    }

    public int seed(int v) {
        int was = now.z;
        now.z = v;
        return was;
    }

    // ---- voices, plates, images, what is told

    public int voice(int letter, int voice, int x) {
        if (!now.hasLetter(letter) || !isWithin(voice, 0, 3)) {
            return refuse(BEYOND);
        }
        int answer = voices.hear(now.letters[letter], letter, voice, x);
        return voices.parted ? refuse(PARTED) : answer;
    }

    public int body(int i) {
        return isWithin(i, 0, voices.trace.length - 1) ? voices.trace.at(i) : refuse(NONE);
    }

    public int sheet(int sheet, int bits, int n) {
        if (!isPlate(sheet) || (bits != 0 && bits != 8 && bits != 16 && bits != 32)) {
            return refuse(BEYOND);
        }
        if (bits != 0 && n < 0) {
            return refuse(STATE);
        }
        if (bits != 0 && n > PLATE_NUMBERS) {
            return refuse(BEYOND);
        }
        plates[sheet].bits = bits;
        plates[sheet].numbers.beZeros(bits == 0 ? 0 : n);
        return 1;
    }

    public int put(int sheet, int i, int v) {
        if (!isPlate(sheet)) {
            return refuse(BEYOND);
        }
        Plate plate = plates[sheet];
        if (plate.isMissing()) {
            return refuse(NONE);
        }
        return plate.numbers.change(i, plate.lowestBits(v)) ? 1 : refuse(BEYOND);
    }

    public int move(int sheet, int i, int other, int j, int n) {
        if (!isPlate(sheet) || !isPlate(other)) {
            return refuse(BEYOND);
        }
        Plate from = plates[sheet];
        Plate to = plates[other];
        if (from.isMissing() || to.isMissing()) {
            return refuse(NONE);
        }
        if (from.bits != to.bits) {
            return refuse(KIND);
        }
        return to.numbers.bring(j, from.numbers, i, n) ? n : refuse(BEYOND);
    }

    public int casts(int sheet) {
        if (!isPlate(sheet)) {
            return refuse(BEYOND);
        }
        if (plates[sheet].isMissing()) {
            return refuse(NONE);
        }
        Row numbers = plates[sheet].numbers;
        int came = 0;
        for (int i = 0; i + 3 <= numbers.length; i += 3) {
            if (now.castError(numbers.at(i), numbers.at(i + 1), numbers.at(i + 2)) != 0) {
                break;
            }
            now.castLetter(numbers.at(i), numbers.at(i + 1), numbers.at(i + 2));
            came++;
        }
        return came;
    }

    public int judge(int sheet, int page) {
        if (!isPlate(sheet) || !isPage(page)) {
            return refuse(BEYOND);
        }
        if (plates[sheet].isMissing()) {
            return refuse(NONE);
        }
        Row numbers = plates[sheet].numbers;
        ahead.startPage(page);
        int place = 0;
        while (place < numbers.length && numbers.at(place) == ahead.seen()) {
            ahead.passSheet();
            place++;
        }
        return place;
    }

    public int image() {
        kept.takeFrom(now);
        imagesKept++;
        return imagesKept;
    }

    public int restore() {
        if (imagesKept == 0) {
            return refuse(NONE);
        }
        now.takeFrom(kept);
        return now.water;
    }

    public int tell(int v) {
        return now.waiting.add(v) ? now.waiting.length : refuse(FULL);
    }

    public int check(int page) {
        int answer = isPage(page) ? now.checkWaiting(page) : refuse(BEYOND);
        now.waiting.clear();
        return answer;
    }

    public int count(int what) {
        switch (what) {
            case 0: return now.letterCount;
            case 1: return now.wordCount;
            case 2: return now.water;
            case 3: return now.salt;
            case 4: return now.mist;
            case 5: return now.iceOfAll();
            case 6: return now.tape.length;
            case 7: return now.waiting.length;
            case 8: return voices.trace.length;
            case 9: return now.z;
            default: return isWithin(what, 10, 9 + ROOMS) ? now.cold[what - 10] : refuse(BEYOND);
        }
    }

    public int told(int k) {
        return isWithin(k, 1, ERRORS) ? refusals[k] : refuse(BEYOND);
    }

    /** Counts an ERROR as answered: values that merely look like one (z, a voice) never come here. */
    private int refuse(int error) {
        int k = LOW - error;
        if (isWithin(k, 1, ERRORS)) {
            refusals[k]++;
        }
        return error;
    }

    private static boolean isPage(int page) {
        return isWithin(page, 0, PAGES - 1);
    }

    private static boolean isPlate(int sheet) {
        return isWithin(sheet, 0, PLATES - 1);
    }

    /** Below 0 for what may not be set at all, so that no v is good for it. */
    private static int mostToSet(int what) {
        switch (what) {
            case 0: return KINDS - 1;
            case 1: return MOST_M;
            case 4: return ROOMS - 1;
            case 6: return MOST_AGE;
            default: return -1;
        }
    }

    private static boolean isWithin(int v, int least, int most) {
        return v >= least && v <= most;
    }

    private static int hold(int v, int least, int most) {
        if (v < least) {
            return least;
        }
        return v > most ? most : v;
    }

    private static int quotient(int v, int by) {
        return by == 0 ? 0 : v / by;
    }

    private static boolean isSmallLetter(int sign) {
        return isWithin(sign, 'a', 'z');
    }

    private static int glyphOf(int sign) {
        return sign - 'a' + 1;
    }

    /** Numbers in a row with a most; made once and used again, as all calls share one room. */
    private static final class Row {
        private final int[] numbers;
        private int length;

        Row(int most) {
            numbers = new int[Math.max(most, 0)];
        }

        boolean add(int v) {
            if (length >= numbers.length) {
                return false;
            }
            numbers[length] = v;
            length++;
            return true;
        }

        int at(int i) {
            return isWithin(i, 0, length - 1) ? numbers[i] : 0;
        }

        boolean change(int i, int v) {
            if (!isWithin(i, 0, length - 1)) {
                return false;
            }
            numbers[i] = v;
            return true;
        }

        void clear() {
            length = 0;
        }

        void beZeros(int n) {
            length = hold(n, 0, numbers.length);
            for (int i = 0; i < length; i++) {
                numbers[i] = 0;
            }
        }

        void takeFrom(Row other) {
            length = Math.min(other.length, numbers.length);
            System.arraycopy(other.numbers, 0, numbers, 0, length);
        }

        boolean has(int from, int n) {
            return isWithin(from, 0, length) && isWithin(n, 0, length - from);
        }

        boolean bring(int to, Row other, int from, int n) {
            if (!has(to, n) || !other.has(from, n)) {
                return false;
            }
            System.arraycopy(other.numbers, from, numbers, to, n);
            return true;
        }
    }

    /** One letter; what it melts by needs a shop, how it reads only itself. */
    private static final class Letter {
        private int kind;
        private int m;
        private int glyph;
        private int ice;
        private int room;
        private int page = -1;
        private int age;

        void begin(int newKind, int newM, int newGlyph, int newIce) {
            kind = newKind;
            m = newM;
            glyph = newGlyph;
            ice = newIce;
            room = 0;
            page = -1;
            age = 0;
        }

        void takeFrom(Letter other) {
            kind = other.kind;
            m = other.m;
            glyph = other.glyph;
            ice = other.ice;
            room = other.room;
            page = other.page;
            age = other.age;
        }

        boolean isOf(int asked) {
            int at = kind;
            for (int i = 0; i < KINDS && isWithin(at, 0, KINDS - 1); i++) {
                if (at == asked) {
                    return true;
                }
                at = ABOVE[at];
            }
            return false;
        }

        int change(int what, int v) {
            int was = 0;
            switch (what) {
                case 0:
                    was = kind;
                    kind = v;
                    break;
                case 1:
                    was = m;
                    m = v;
                    break;
                case 4:
                    was = room;
                    room = v;
                    break;
                default:
                    was = age;
                    age = v;
                    break;
            }
            return was;
        }

        int takeIce(int drops) {
            ice -= drops;
            return drops;
        }

        void grow() {
            age = Math.min(age + 1, MOST_AGE);
        }

        int reads() {
            int read = quotient(ice, kind == CAPITAL ? 10 : 10 + m);
            if (kind == BOLD || kind == CAPITAL) {
                read += read > 0 ? 1 : 0;
            } else if (kind == OLD) {
                read--;
            }
            return hold(read, 0, BEST_READ);
        }
    }

    /**
     * A TEXT as codes in the order in which they are worked out: 0 .. 9999 a number,
     * -1 .. -4 a name, else an operator's sign below 0. Without codes there is no TEXT.
     */
    private static final class Law {
        private static final int NAMES = 4;

        private final Row codes = new Row(TAPE_BYTES);
        private final int[] names = new int[NAMES];
        private final int[] values = new int[TAPE_BYTES];

        boolean isTold() {
            return codes.length > 0;
        }

        int workOut(int first, int second, int third, int fourth) {
            names[0] = first;
            names[1] = second;
            names[2] = third;
            names[3] = fourth;
            int top = 0;
            for (int i = 0; i < codes.length; i++) {
                int code = codes.numbers[i];
                if (code >= -NAMES && top < values.length) {
                    values[top] = code >= 0 ? code : names[-1 - code];
                    top++;
                } else if (code == -'!' && top >= 1) {
                    values[top - 1] = values[top - 1] == 0 ? 1 : 0;
                } else if (top >= 2) {
                    top--;
                    values[top - 1] = join(-code, values[top - 1], values[top]);
                }
            }
            return values[0];
        }

        private static int join(int sign, int left, int right) {
            switch (sign) {
                case '|': return left != 0 || right != 0 ? 1 : 0;
                case '&': return left != 0 && right != 0 ? 1 : 0;
                case '<': return left < right ? 1 : 0;
                case '=': return left == right ? 1 : 0;
                case '>': return left > right ? 1 : 0;
                case '+': return left + right;
                case '-': return left - right;
                case '*': return left * right;
                case '/': return right == 0 ? 0 : left / right;
                default: return right == 0 ? 0 : left % right;
            }
        }
    }

    /** Reads the tape as a TEXT; where it stops reading is the first byte with which none goes on. */
    private static final class LawReader {
        private static final int COMPARING = 2;
        private static final int PARTS = 5;
        private static final int MOST_DIGITS = 4;

        private final Row tape;
        private final Row codes = new Row(TAPE_BYTES);
        private int at;

        LawReader(Row tape) {
            this.tape = tape;
        }

        /** -1: it is a TEXT, and codes has it. */
        int faultOfTape(String names) {
            codes.clear();
            at = 0;
            boolean whole = readLevel(0, names, 0);
            return whole && at == tape.length ? -1 : at;
        }

        /** Levels are the document's T, A, B, S, P; behind them come the parts (Q). */
        private boolean readLevel(int level, String names, int open) {
            if (level >= PARTS) {
                return readPart(names, open);
            }
            boolean good = readLevel(level + 1, names, open);
            int joined = 0;
            while (good && joined < TAPE_BYTES && isJoining(level, joined)) {
                int sign = tape.at(at);
                at++;
                good = readLevel(level + 1, names, open);
                codes.add(-sign);
                joined++;
            }
            return good;
        }

        private boolean isJoining(int level, int joined) {
            int sign = tape.at(at);
            switch (level) {
                case 0: return sign == '|';
                case 1: return sign == '&';
                case COMPARING: return joined == 0 && isWithin(sign, '<', '>');
                case 3: return sign == '+' || sign == '-';
                default: return sign == '*' || sign == '/' || sign == '%';
            }
        }

        private boolean readPart(String names, int open) {
            int sign = tape.at(at);
            if (isDigit(sign)) {
                readNumber();
                return true;
            }
            if (sign == '!' || sign == '(') {
                return open < OPEN_AT_ONCE && readOpened(sign, names, open + 1);
            }
            int name = at < tape.length ? names.indexOf((char) sign) : -1;
            if (name < 0) {
                return false;
            }
            codes.add(-1 - name);
            at++;
            return true;
        }

        private boolean readOpened(int sign, String names, int open) {
            at++;
            if (sign == '!') {
                boolean good = readPart(names, open);
                codes.add(-'!');
                return good;
            }
            if (!readLevel(0, names, open) || tape.at(at) != ')') {
                return false;
            }
            at++;
            return true;
        }

        private void readNumber() {
            int value = 0;
            for (int i = 0; i < MOST_DIGITS && isDigit(tape.at(at)); i++) {
                value = value * 10 + tape.at(at) - '0';
                at++;
            }
            codes.add(value);
        }

        private static boolean isDigit(int sign) {
            return isWithin(sign, '0', '9');
        }
    }

    /** All that an image keeps, and what follows from it at once. */
    private static final class Shop {
        private final int[] cold = new int[ROOMS];
        private int water = 1000;
        private int salt;
        private int mist;
        private int z = 1;
        private final Letter[] letters = new Letter[LETTERS];
        private int letterCount;
        private final Row[] pages = new Row[PAGES];
        private final int[] sheets = new int[PAGES];
        private final Law drips = new Law();
        private final Law sees = new Law();
        private final Row[] words = new Row[WORDS];
        private int wordCount;
        private final Row tape = new Row(TAPE_BYTES);
        private final Row waiting = new Row(WAITING);

        Shop() {
            for (int i = 0; i < ROOMS; i++) {
                cold[i] = 5;
            }
            for (int i = 0; i < LETTERS; i++) {
                letters[i] = new Letter();
            }
            for (int i = 0; i < PAGES; i++) {
                pages[i] = new Row(PLACES);
            }
            for (int i = 0; i < WORDS; i++) {
                words[i] = new Row(WORD_BYTES);
            }
        }

        void takeFrom(Shop other) {
            System.arraycopy(other.cold, 0, cold, 0, ROOMS);
            System.arraycopy(other.sheets, 0, sheets, 0, PAGES);
            water = other.water;
            salt = other.salt;
            mist = other.mist;
            z = other.z;
            letterCount = other.letterCount;
            wordCount = other.wordCount;
            for (int i = 0; i < LETTERS; i++) {
                letters[i].takeFrom(other.letters[i]);
            }
            for (int i = 0; i < PAGES; i++) {
                pages[i].takeFrom(other.pages[i]);
            }
            for (int i = 0; i < WORDS; i++) {
                words[i].takeFrom(other.words[i]);
            }
            drips.codes.takeFrom(other.drips.codes);
            sees.codes.takeFrom(other.sees.codes);
            tape.takeFrom(other.tape);
            waiting.takeFrom(other.waiting);
        }

        boolean hasLetter(int letter) {
            return isWithin(letter, 0, letterCount - 1);
        }

        Law lawOf(int use) {
            return use == 0 ? drips : sees;
        }

        /** 0: the letter can be cast. */
        int castError(int km, int glyph, int ice) {
            if (!isWithin(km, 0, 10 * KINDS - 1) || !isWithin(glyph, 1, GLYPHS) || !isWithin(ice, 0, MOST_ICE)) {
                return BEYOND;
            }
            if (ice > water) {
                return STATE;
            }
            return letterCount >= LETTERS ? FULL : 0;
        }

        int castLetter(int km, int glyph, int ice) {
            int number = letterCount;
            if (number >= LETTERS) {
                return number;
            }
            int kind = km / 10;
            int grains = quotient(salt * ice, water);
            if (kind == THIN && grains > 0) {
                letters[number].begin(SALTED, Math.min(grains, MOST_M), glyph, ice);
            } else {
                letters[number].begin(kind, km % 10, glyph, ice);
            }
            water -= ice;
            salt -= grains;
            letterCount++;
            return number;
        }

        int factOf(Letter letter, int sheetsSoFar, int what) {
            switch (what) {
                case 0: return letter.kind;
                case 1: return letter.m;
                case 2: return letter.glyph;
                case 3: return letter.ice;
                case 4: return letter.room;
                case 5: return letter.page;
                case 6: return letter.age;
                case 7: return meltsOf(letter);
                case 8: return letter.reads();
                default: return seesOf(letter, sheetsSoFar);
            }
        }

        int meltsOf(Letter letter) {
            int coldThere = isWithin(letter.room, 0, ROOMS - 1) ? cold[letter.room] : 0;
            int melts = Math.max(0, 5 - coldThere);
            switch (letter.kind) {
                case THIN:
                    melts += letter.ice / 10;
                    break;
                case BOLD:
                    melts /= 2;
                    break;
                case SALTED:
                    melts += letter.ice / 10 + letter.m;
                    break;
                case CAPITAL:
                    melts = melts / 2 + letter.age % 2;
                    break;
                case OLD:
                    melts += letter.age / 4;
                    break;
                case TOLD:
                    melts = drips.isTold() ? drips.workOut(letter.ice, coldThere, letter.age, letter.m) : 3 - coldThere;
                    break;
                default:
                    break;
            }
            return hold(melts, 0, letter.ice);
        }

        int seesOf(Letter letter, int sheetsSoFar) {
            int reads = letter.reads();
            return sees.isTold() ? hold(sees.workOut(reads, sheetsSoFar, letter.glyph, 0), 0, BEST_READ) : reads;
        }

        int sheetsAround(Letter letter) {
            return isPage(letter.page) ? sheets[letter.page] : 0;
        }

        void dripInto(int drops) {
            int held = Math.min(drops, MOST_WATER - water);
            water += held;
            mist += drops - held;
        }

        int iceOfAll() {
            int all = 0;
            for (int i = 0; i < letterCount; i++) {
                all += letters[i].ice;
            }
            return all;
        }

        /** Held, so that even a place without a letter could not lead outside the row. */
        Letter letterIn(int page, int place) {
            return letters[hold(pages[page].at(place), 0, LETTERS - 1)];
        }

        int seenOf(int page) {
            int least = BEST_READ;
            for (int i = 0; i < pages[page].length; i++) {
                least = Math.min(least, seesOf(letterIn(page, i), sheets[page]));
            }
            return least;
        }

        boolean pressSheet(int page) {
            boolean clear = seenOf(page) >= CLEAR_FROM;
            for (int i = 0; i < pages[page].length; i++) {
                Letter letter = letterIn(page, i);
                dripInto(letter.takeIce(meltsOf(letter)));
                letter.grow();
            }
            sheets[page]++;
            return clear;
        }

        int emptyPage(int page) {
            int out = pages[page].length;
            for (int i = 0; i < out; i++) {
                letterIn(page, i).page = -1;
            }
            pages[page].clear();
            return out;
        }

        /** -1: the tape is a word. */
        int wordFault() {
            for (int i = 0; i < tape.length; i++) {
                if (i >= WORD_BYTES || !isSmallLetter(tape.at(i))) {
                    return i;
                }
            }
            return tape.length == 0 ? 0 : -1;
        }

        boolean mayHaveSaid(int page, Row word) {
            int length = pages[page].length;
            if (word.length != length) {
                return false;
            }
            for (int i = 0; i < length; i++) {
                Letter letter = letterIn(page, i);
                if (letter.glyph != glyphOf(word.at(i)) && seesOf(letter, sheets[page]) > 0) {
                    return false;
                }
            }
            return true;
        }

        int caseOf(int glyph) {
            int there = 0;
            for (int i = 0; i < letterCount; i++) {
                Letter letter = letters[i];
                if (letter.glyph == glyph && letter.page < 0 && letter.reads() > 0) {
                    there++;
                }
            }
            return there;
        }

        int placeNotSet() {
            int place = 0;
            while (place < tape.length && isSmallLetter(tape.at(place))
                    && timesUpTo(place) <= caseOf(glyphOf(tape.at(place)))) {
                place++;
            }
            return place;
        }

        private int timesUpTo(int place) {
            int times = 0;
            for (int i = 0; i <= place; i++) {
                times += tape.at(i) == tape.at(place) ? 1 : 0;
            }
            return times;
        }

        int warmDay() {
            z = z * 1103515245 + 12345;
            int less = (z >>> 8) % 7 - 3;
            for (int i = 0; i < ROOMS; i++) {
                cold[i] = hold(cold[i] - less, LEAST_COLD, MOST_COLD);
            }
            int gone = 0;
            for (int i = 0; i < letterCount; i++) {
                if (letters[i].page < 0) {
                    gone += letters[i].takeIce(meltsOf(letters[i]) / 2);
                }
            }
            mist += gone;
            return gone;
        }

        int checkWaiting(int page) {
            int length = pages[page].length;
            int same = 0;
            while (same < length && same < waiting.length
                    && waiting.at(same) == seesOf(letterIn(page, same), sheets[page])) {
                same++;
            }
            return same == length && same == waiting.length ? 0 : 1 + same;
        }
    }

    /** Letters of a page as they would be: copies, so that the shop stays as it is. */
    private static final class Ahead {
        private final Shop shop;
        private final Letter[] letters = new Letter[PLACES];
        private int length;
        private int sheets;

        Ahead(Shop shop) {
            this.shop = shop;
            for (int i = 0; i < PLACES; i++) {
                letters[i] = new Letter();
            }
        }

        void startPage(int page) {
            length = Math.min(shop.pages[page].length, PLACES);
            sheets = shop.sheets[page];
            for (int i = 0; i < length; i++) {
                letters[i].takeFrom(shop.letterIn(page, i));
            }
        }

        /** Letters melt and are seen each by itself, so the rest of its page is not needed. */
        void startLetter(Letter letter) {
            length = 1;
            sheets = shop.sheetsAround(letter);
            letters[0].takeFrom(letter);
        }

        void bringTo(int room) {
            for (int i = 0; i < length; i++) {
                letters[i].room = room;
            }
        }

        int seen() {
            int least = BEST_READ;
            for (int i = 0; i < length; i++) {
                least = Math.min(least, shop.seesOf(letters[i], sheets));
            }
            return least;
        }

        void passSheet() {
            for (int i = 0; i < length; i++) {
                letters[i].takeIce(shop.meltsOf(letters[i]));
                letters[i].grow();
            }
            sheets++;
        }

        /** A sheet of another page: the letters melt, but grow no older. */
        void waitSheet() {
            for (int i = 0; i < length; i++) {
                letters[i].takeIce(shop.meltsOf(letters[i]));
            }
        }

        int clearInARun(int n) {
            int clear = 0;
            while (clear < n && seen() >= CLEAR_FROM) {
                passSheet();
                clear++;
            }
            return clear;
        }
    }

    /**
     * The rows in which pages may be pressed. How many sheets of a page are clear depends on how many
     * pages go ahead of it, not on which, so each page is tried once for each turn.
     */
    private static final class Rows {
        private final Shop shop;
        private final Ahead ahead;
        private final Row filled = new Row(PAGES);
        private final Row clearByTurn = new Row(PAGES * PAGES);
        private final Row best = new Row(PAGES);
        private int mostClear;

        Rows(Shop shop, Ahead ahead) {
            this.shop = shop;
            this.ahead = ahead;
        }

        void tryTurns(int n) {
            filled.clear();
            for (int page = 0; page < PAGES; page++) {
                if (shop.pages[page].length > 0) {
                    filled.add(page);
                }
            }
            clearByTurn.clear();
            for (int i = 0; i < filled.length; i++) {
                for (int turn = 0; turn < filled.length; turn++) {
                    clearByTurn.add(clearInTurn(filled.at(i), turn, n));
                }
            }
        }

        void findBest() {
            int turns = filled.length;
            int bestRow = 0;
            mostClear = -1;
            // Two bits for each turn, the first turn's highest: so rows come in the document's order.
            for (int row = 0; row < 1 << (2 * turns); row++) {
                int clear = clearOfRow(row, turns);
                if (clear > mostClear) {
                    mostClear = clear;
                    bestRow = row;
                }
            }
            best.clear();
            for (int turn = 0; turn < turns; turn++) {
                best.add(filled.at(chosen(bestRow, turn, turns)));
            }
        }

        private int clearInTurn(int page, int turn, int n) {
            ahead.startPage(page);
            for (int i = 0; i < turn * n; i++) {
                ahead.waitSheet();
            }
            int clear = 0;
            for (int i = 0; i < n; i++) {
                clear += ahead.seen() >= CLEAR_FROM ? 1 : 0;
                ahead.passSheet();
            }
            return clear;
        }

        /** -1: a page stands twice in it, or it names one that is not filled. */
        private int clearOfRow(int row, int turns) {
            int clear = 0;
            int used = 0;
            for (int turn = 0; turn < turns; turn++) {
                int i = chosen(row, turn, turns);
                if (i >= turns || (used & (1 << i)) != 0) {
                    return -1;
                }
                used |= 1 << i;
                clear += clearByTurn.at(i * turns + turn);
            }
            return clear;
        }

        private static int chosen(int row, int turn, int turns) {
            return (row >> (2 * (turns - 1 - turn))) & 3;
        }
    }

    /** Voices by bodies; kinds change while a letter lives, so bodies are found by tables, not by classes. */
    private static final class Voices {
        private static final int MELTS = 0;
        private static final int READS = 1;
        private static final int DRIPS = 2;
        private static final int CASTS = 3;
        private static final int VOICES = 4;
        private static final int TRACE = 30;
        private static final int DEEPEST = 40;

        /** A line for each kind, in it melts, reads, drips, casts; 0: it has the one above it. */
        private static final int[] BODIES = {
            10, 11, 12, 13,
            20, 0, 0, 21,
            0, 30, 0, 0,
            40, 0, 41, 0,
            0, 50, 0, 0,
            0, 0, 60, 0,
            70, 71, 0, 0
        };

        private final Row trace = new Row(TRACE);
        private boolean parted;
        private int kind;
        private int m;
        private int k;

        int hear(Letter letter, int number, int voice, int x) {
            trace.clear();
            parted = false;
            kind = letter.kind;
            m = letter.m;
            k = number;
            return speak(kind, voice, x, 0);
        }

        private int speak(int from, int voice, int x, int depth) {
            int body = bodyFrom(from, voice);
            if (body == 0 || depth >= DEEPEST) {
                return 0;
            }
            trace.add(body);
            int above = ABOVE[hold(body / 10 - 1, 0, KINDS - 1)];
            int next = depth + 1;
            switch (body) {
                case 10: return x + k;
                case 11: return speak(kind, MELTS, x, next) * 2;
                case 12: return speak(kind, READS, x, next) - m;
                case 13: return part(x);
                case 20: return speak(above, MELTS, x, next) - 6;
                case 21: return castThinly(above, x, next);
                case 30: return 0 - speak(above, READS, x, next);
                case 40: return speak(above, MELTS, x, next) * 3;
                case 41: return speak(above, DRIPS, x, next) ^ k;
                case 50: return speak(above, READS, x + 1, next);
                case 60: return speak(above, DRIPS, x / 2, next);
                case 70: return 2;
                default: return speak(above, READS, x, next) + m;
            }
        }

        private int castThinly(int above, int x, int depth) {
            int left = speak(above, CASTS, x, depth);
            return parted ? 0 : left + speak(kind, READS, 1, depth);
        }

        private int part(int x) {
            parted = m == k;
            return quotient(x, m - k);
        }

        private static int bodyFrom(int from, int voice) {
            int at = from;
            for (int i = 0; i < KINDS && isWithin(at, 0, KINDS - 1); i++) {
                int body = BODIES[at * VOICES + voice];
                if (body != 0) {
                    return body;
                }
                at = ABOVE[at];
            }
            return 0;
        }
    }

    /** Numbers of so many bits; of 0 bits it is missing. */
    private static final class Plate {
        private final Row numbers = new Row(PLATE_NUMBERS);
        private int bits;

        boolean isMissing() {
            return bits == 0;
        }

        int lowestBits(int v) {
            switch (bits) {
                case 8: return (byte) v;
                case 16: return (short) v;
                default: return v;
            }
        }
    }
}
