import java.util.Arrays;

/** A route known to the horses: see ../shared/DOC.md, whose words (TOWN, STEP, WAY, ..) are used here too. */
public final class GreyRoute {
    public static final int NONE = -1;

    private static final int MOST_TAPE = 1600;
    private static final int MOST_STATEMENTS = 80;
    private static final int MOST_PLACES = 8;
    private static final int MOST_STREETS = 14;
    private static final int MOST_THINGS = 8;
    private static final int MOST_TOLD_STEPS = 20;
    private static final int MOST_STEPS = 30;
    private static final int MOST_MINUTES = 30;
    private static final int MOST_STANDING = 60;
    private static final int MOST_OPEN = 7;
    private static final int MOST_YEARS = 40;
    private static final int LAST_YEAR = 999;
    private static final int MOST_KEPT = 40;
    private static final int MOST_ACTS = 20;
    private static final int MOST_ROWS = 20;
    private static final int MOST_FILLED = 999999999;
    private static final int MOST_IMAGE = 2 + MOST_STREETS + MOST_THINGS + 1 + 2 * MOST_STEPS + 1;
    private static final int NAME_LETTERS = 6;
    private static final int NUMBER_DIGITS = 4;
    private static final int RESULT_LIMIT = 1000000;

    /** Each OWN WORD is known by its number in this text; the constants below are these numbers. */
    private static final String OWN_WORDS = "place street to paces step for thing at pull stands clever heat hot year told been steps time loops if or and not all min max";
    private static final int OWN_COUNT = 26;
    private static final int PLACE = 0;
    private static final int STREET = 1;
    private static final int TO = 2;
    private static final int PACES = 3;
    private static final int STEP = 4;
    private static final int FOR = 5;
    private static final int THING = 6;
    private static final int AT = 7;
    private static final int PULL = 8;
    private static final int STANDS = 9;
    private static final int CLEVER = 10;
    private static final int HEAT = 11;
    private static final int HOT = 12;
    private static final int YEAR = 13;
    private static final int TOLD = 14;
    private static final int BEEN = 15;
    private static final int STEPS = 16;
    private static final int TIME = 17;
    private static final int LOOPS = 18;
    private static final int IF = 19;
    private static final int OR = 20;
    private static final int AND = 21;
    private static final int NOT = 22;
    private static final int ALL = 23;
    private static final int MIN = 24;
    private static final int MAX = 25;

    private final Bytes tape = new Bytes(MOST_TAPE);
    private final Bytes picture = new Bytes(MOST_IMAGE);
    private final State now = new State();
    private final Past past = new Past();
    private final Half rows = new Half();
    private final int[] refused = new int[6];
    private final Reader reader;
    private final Pageant pageant;
    private Town theTown = new Town();
    private Town spareTown = new Town();
    private int latestFault = 0;
    private int latestFaultAt = NONE;
    private int chanceSeed = 1;

    public GreyRoute() {
        reader = new Reader(new Words(tape), spareTown);
        pageant = new Pageant(theTown);
    }

    // ---- the tape, the town

    public int feed(int a, int b, int c, int d, int e) {
        if (tape.size + 20 > MOST_TAPE) {
            return refuse(0);
        }
        tape.putNumber(a);
        tape.putNumber(b);
        tape.putNumber(c);
        tape.putNumber(d);
        tape.putNumber(e);
        return tape.size;
    }

    public boolean end(int n) {
        if (n < 0 || n > tape.size) {
            return deny(0);
        }
        tape.cut(n);
        return true;
    }

    public int town() {
        boolean good = reader.read(spareTown);
        latestFault = reader.fault;
        latestFaultAt = reader.faultAt;
        tape.cut(0);
        if (!good) {
            return refuse(1);
        }
        Town old = theTown;
        theTown = spareTown;
        spareTown = old;
        now.beginIn(theTown);
        past.forgetActs();
        rows.clear();
        return theTown.statements;
    }

    public int fault(int what) {
        if (what == 0) {
            return latestFault;
        }
        return what == 1 ? latestFaultAt : NONE;
    }

    public int has(int what) {
        switch (what) {
            case 0: return theTown.placeCount;
            case 1: return theTown.streetCount;
            case 2: return theTown.thingCount;
            case 3: return now.year;
            case 4: return now.route.count;
            case 5: return Integer.bitCount(now.shutBits);
            case 6: return toldAsKept();
            case 7: return rows.count;
            case 8: return past.actCount;
            case 9: return chanceSeed;
            default: return NONE;
        }
    }

    public int letter(int kind, int which, int k) {
        if (k < 0 || k >= NAME_LETTERS) {
            return NONE;
        }
        if (kind == 0 && isPlace(which)) {
            return Words.letterOf(theTown.placeNames[which], k);
        }
        if (kind == 1 && isThing(which)) {
            return Words.letterOf(theTown.thingNames[which], k);
        }
        return NONE;
    }

    public int street(int street, int what) {
        if (!isStreet(street)) {
            return NONE;
        }
        switch (what) {
            case 0: return theTown.streetFrom[street];
            case 1: return theTown.streetTo[street];
            case 2: return theTown.streetPaces[street];
            case 3: return now.shutBits >> street & 1;
            default: return NONE;
        }
    }

    public int way(int from, int to) {
        if (!isPlace(from) || !isPlace(to)) {
            return NONE;
        }
        pageant.ways.measure(theTown, now.shutBits);
        return pageant.ways.paces(from, to);
    }

    public int thing(int thing, int what) {
        if (!isThing(thing)) {
            return NONE;
        }
        if (what == 0) {
            return now.thingSpots[thing];
        }
        return what == 1 ? theTown.thingPulls[thing] : NONE;
    }

    public int step(int k, int what) {
        if (k < 0 || k >= now.route.count) {
            return NONE;
        }
        if (what == 0) {
            return now.route.spots[k];
        }
        return what == 1 ? now.route.minutes[k] : NONE;
    }

    // ---- this year

    public int year(int what) {
        goThisYear();
        switch (what) {
            case 0: return pageant.route.count;
            case 1: return pageant.time;
            case 2: return pageant.standing;
            case 3: return pageant.pairs;
            default: return NONE;
        }
    }

    public int goes(int k, int what) {
        goThisYear();
        if (k < 0 || k >= pageant.route.count) {
            return NONE;
        }
        switch (what) {
            case 0: return pageant.route.spots[k];
            case 1: return pageant.stood[k];
            case 2: return pageant.comes[k];
            default: return NONE;
        }
    }

    public int wall() {
        goThisYear();
        int longest = NONE;
        for (int k = 0; k < pageant.route.count; k++) {
            if (longest == NONE || pageant.stood[k] > pageant.stood[longest]) {
                longest = k;
            }
        }
        return longest;
    }

    public int away(int n) {
        if (n < 0 || n > MOST_STANDING) {
            return NONE;
        }
        goThisYear();
        int sets = 1 << theTown.thingCount;
        for (int many = 0; many <= theTown.thingCount; many++) {
            for (int bits = 0; bits < sets; bits++) {
                if (Integer.bitCount(bits) == many && pageant.standsWithin(n, now, bits)) {
                    return bits;
                }
            }
        }
        return NONE;
    }

    public int by(int place) {
        if (!isPlace(place)) {
            return NONE;
        }
        if (pageant.comesBy(theTown, now, 0, place)) {
            return 0;
        }
        for (int one = 0; one < theTown.streetCount; one++) {
            if (pageant.comesBy(theTown, now, 1 << one, place)) {
                return 1 << one;
            }
        }
        // the higher of two bits counts most, so it is the outer one
        for (int high = 1; high < theTown.streetCount; high++) {
            for (int low = 0; low < high; low++) {
                int bits = 1 << high | 1 << low;
                if (pageant.comesBy(theTown, now, bits, place)) {
                    return bits;
                }
            }
        }
        return NONE;
    }

    public int seats(int many) {
        if (many < 1 || many > 3 || many > theTown.placeCount) {
            return NONE;
        }
        goThisYear();
        pageant.sumByPlace();
        int best = NONE;
        int seen = NONE;
        for (int bits = 0; bits < 1 << theTown.placeCount; bits++) {
            if (Integer.bitCount(bits) == many && pageant.seenFrom(bits) > seen) {
                best = bits;
                seen = pageant.seenFrom(bits);
            }
        }
        return best;
    }

    // ---- ahead

    public int later(int n, int what) {
        if (n < 0 || n >= MOST_YEARS || what < 0 || what > 1) {
            return NONE;
        }
        goThisYear();
        for (int i = 0; i < n; i++) {
            pageant.pass();
            pageant.go(theTown.heat);
        }
        return what == 0 ? pageant.route.count : pageant.time;
    }

    public int missed(int place) {
        if (!isPlace(place)) {
            return NONE;
        }
        pageant.begin(theTown, now);
        for (int n = 0; n < MOST_YEARS; n++) {
            pageant.go(theTown.heat);
            if (!pageant.route.holds(place)) {
                return n;
            }
            pageant.pass();
        }
        return NONE;
    }

    public int held() {
        pageant.begin(theTown, now);
        for (int n = 0; n < MOST_YEARS; n++) {
            if (pageant.leavesRoute(theTown.heat)) {
                return n;
            }
        }
        return NONE;
    }

    // ---- what half is told

    public int half() {
        boolean good = rows.fits(tape, theTown.placeCount);
        if (good) {
            rows.take(tape);
        }
        tape.cut(0);
        return good ? rows.count : refuse(5);
    }

    public int filled(int n) {
        if (n < 1 || n > MOST_ROWS) {
            return NONE;
        }
        return Half.capped(rows.countRoutes(theTown, n));
    }

    public int filling(int n, int k) {
        if (n < 1 || n > MOST_ROWS || k < 0 || k >= n) {
            return NONE;
        }
        return rows.placeOfFirst(theTown, n, k);
    }

    public int asked(int n, int what) {
        if (n < 1 || n > MOST_ROWS || what < 0 || what > 1) {
            return NONE;
        }
        if (rows.countRoutes(theTown, n) == 0) {
            return NONE;
        }
        rows.ask(theTown, n);
        return what == 0 ? rows.askedStep : Half.capped(rows.askedLeft);
    }

    // ---- acts

    public int years(int n) {
        if (!canPass(n)) {
            return refuse(2);
        }
        past.remember(now);
        pageant.begin(theTown, now);
        int all = 0;
        for (int i = 0; i < n; i++) {
            passOneYear(theTown.heat);
            all += pageant.time;
        }
        pageant.leaveIn(now);
        return all;
    }

    public int chance(int n) {
        if (!canPass(n)) {
            return refuse(2);
        }
        past.remember(now);
        pageant.begin(theTown, now);
        int hotYears = 0;
        for (int i = 0; i < n; i++) {
            boolean isHot = draw(100) < theTown.hot;
            if (isHot) {
                hotYears++;
            }
            passOneYear(isHot ? draw(41) : theTown.heat);
        }
        pageant.leaveIn(now);
        return hotYears;
    }

    public boolean shut(int street, int on) {
        if (!isStreet(street) || on < 0 || on > 1 || (now.shutBits >> street & 1) == on) {
            return deny(3);
        }
        past.remember(now);
        now.shutBits ^= 1 << street;
        return true;
    }

    public boolean move(int thing, int place) {
        if (!isThing(thing) || !isPlace(place) || now.thingSpots[thing] == place) {
            return deny(3);
        }
        past.remember(now);
        now.thingSpots[thing] = place;
        return true;
    }

    public boolean teach(int place, int minutes) {
        boolean canBe = isPlace(place) && minutes >= 0 && minutes <= MOST_MINUTES;
        if (!canBe || now.route.count >= MOST_STEPS || !theTown.canFollow(now.route, place)) {
            return deny(3);
        }
        past.remember(now);
        now.route.append(place, minutes);
        return true;
    }

    public boolean forget() {
        if (now.route.count == 0) {
            return deny(3);
        }
        past.remember(now);
        now.route.cutTo(now.route.count - 1);
        return true;
    }

    public boolean undo() {
        return past.takeBack(now) || deny(4);
    }

    public boolean seed(int seed) {
        if (seed < 0) {
            return deny(5);
        }
        chanceSeed = seed;
        return true;
    }

    public int kept(int k, int what) {
        int told = toldAsKept();
        if (k < 0 || k >= told) {
            return NONE;
        }
        return past.keptOf(now.keptCount - told + k, what);
    }

    // ---- images, refusals

    public int image() {
        picture.cut(0);
        now.write(picture, theTown);
        return picture.size;
    }

    public int octet(int k) {
        return picture.at(k);
    }

    public boolean on() {
        boolean good = State.isImage(tape, theTown);
        if (good) {
            now.take(tape, theTown);
            past.forgetActs();
        }
        tape.cut(0);
        return good || deny(5);
    }

    public int status(int what) {
        return what >= 0 && what < refused.length ? refused[what] : NONE;
    }

    // ---- what the calls share

    private int refuse(int kind) {
        refused[kind]++;
        return NONE;
    }

    private boolean deny(int kind) {
        refused[kind]++;
        return false;
    }

    private boolean isPlace(int place) {
        return place >= 0 && place < theTown.placeCount;
    }

    private boolean isStreet(int street) {
        return street >= 0 && street < theTown.streetCount;
    }

    private boolean isThing(int thing) {
        return thing >= 0 && thing < theTown.thingCount;
    }

    private int toldAsKept() {
        return Math.min(now.keptCount, MOST_KEPT);
    }

    private boolean canPass(int n) {
        return n >= 1 && n <= MOST_YEARS && now.year + n <= LAST_YEAR;
    }

    private void goThisYear() {
        pageant.begin(theTown, now);
        pageant.go(theTown.heat);
    }

    private void passOneYear(int heat) {
        pageant.go(heat);
        past.keep(now, pageant);
        pageant.pass();
    }

    private int draw(int m) {
        chanceSeed = (int) (1103515245L * chanceSeed + 12345L & 0x7fffffffL);
        return m > 0 ? (chanceSeed / 64) % m : 0;
    }

    /** A row of bytes that grows up to a limit. */
    private static final class Bytes {
        private final byte[] row;
        int size = 0;

        Bytes(int most) {
            row = new byte[Math.max(most, 0)];
        }

        void put(int value) {
            if (size < row.length) {
                row[size] = (byte) value;
                size++;
            }
        }

        void putNumber(int number) {
            put(number >> 24);
            put(number >> 16);
            put(number >> 8);
            put(number);
        }

        int at(int k) {
            return k >= 0 && k < size ? row[k] & 255 : NONE;
        }

        void cut(int n) {
            if (n >= 0 && n < size) {
                size = n;
            }
        }
    }

    /** The words, numbers and signs of a text, one after the other. */
    private static final class Words {
        static final int END = 0;
        static final int NAME = 1;
        static final int OWN = 2;
        static final int NUMBER = 3;
        static final int SIGN = 4;
        static final int WRONG = 5;

        private final Bytes text;
        private final int[] ownWords = new int[OWN_COUNT];
        private int at = 0;
        int kind = END;
        /** A NAME's letters in one number, an OWN WORD's number, a NUMBER, or a sign. */
        int value = 0;
        int start = 0;
        /** Where FAULT 1 is, if this word does not fit. */
        int spot = 0;

        Words(Bytes text) {
            this.text = text;
            packOwnWords();
        }

        private void packOwnWords() {
            int which = 0;
            int letters = 0;
            int packed = 0;
            for (int i = 0; i <= OWN_WORDS.length(); i++) {
                char c = i < OWN_WORDS.length() ? OWN_WORDS.charAt(i) : ' ';
                if (c != ' ') {
                    packed = packed << 5 | letterNumber(c);
                    letters++;
                } else if (which < ownWords.length) {
                    ownWords[which] = filledUp(packed, letters);
                    which++;
                    letters = 0;
                    packed = 0;
                }
            }
        }

        /** Five bits a letter, the first one highest, so that a shorter name has noughts behind it. */
        private static int filledUp(int packed, int letters) {
            return packed << 5 * (NAME_LETTERS - letters);
        }

        private static int letterNumber(int c) {
            return c - 'a' + 1;
        }

        static int letterOf(int name, int k) {
            return name >> 5 * (NAME_LETTERS - 1 - k) & 31;
        }

        private static boolean isLetter(int c) {
            return c >= 'a' && c <= 'z';
        }

        private static boolean isDigit(int c) {
            return c >= '0' && c <= '9';
        }

        void rewind() {
            at = 0;
            kind = END;
            advance();
        }

        void advance() {
            boolean needsBlank = isWordOrNumber();
            int behind = at;
            while (at < text.size && (text.at(at) == ' ' || text.at(at) == '\n')) {
                at++;
            }
            start = at;
            spot = at;
            if (at >= text.size) {
                kind = END;
            } else if (isLetter(text.at(at))) {
                takeWord();
            } else if (isDigit(text.at(at))) {
                takeNumber();
            } else {
                kind = SIGN;
                value = text.at(at);
                at++;
            }
            if (needsBlank && behind == start && isWordOrNumber()) {
                kind = WRONG;
            }
        }

        private boolean isWordOrNumber() {
            return kind == NAME || kind == OWN || kind == NUMBER;
        }

        private void takeWord() {
            int letters = 0;
            int packed = 0;
            while (letters < NAME_LETTERS && isLetter(text.at(at))) {
                packed = packed << 5 | letterNumber(text.at(at));
                letters++;
                at++;
            }
            if (isLetter(text.at(at))) {
                kind = WRONG;
                spot = at;
            } else {
                value = filledUp(packed, letters);
                kind = NAME;
                findOwnWord();
            }
        }

        private void findOwnWord() {
            for (int i = 0; i < ownWords.length; i++) {
                if (ownWords[i] == value) {
                    kind = OWN;
                    value = i;
                    return;
                }
            }
        }

        private void takeNumber() {
            int digits = 0;
            int number = 0;
            while (digits < NUMBER_DIGITS && isDigit(text.at(at))) {
                number = number * 10 + text.at(at) - '0';
                digits++;
                at++;
            }
            if (isDigit(text.at(at))) {
                kind = WRONG;
                spot = at;
            } else {
                kind = NUMBER;
                value = number;
            }
        }

        boolean isOwn(int word) {
            return kind == OWN && value == word;
        }

        boolean isSign(int sign) {
            return kind == SIGN && value == sign;
        }
    }

    /** Reads a text into a TOWN up to its first FAULT; each method answers whether there was none. */
    private static final class Reader {
        private final Words words;
        private Town town;
        private boolean inClever = false;
        int fault = 0;
        int faultAt = NONE;

        Reader(Words words, Town town) {
            this.words = words;
            this.town = town;
        }

        boolean read(Town into) {
            town = into;
            town.clear();
            fault = 0;
            faultAt = NONE;
            words.rewind();
            for (int i = 0; i < MOST_STATEMENTS && words.kind != Words.END; i++) {
                if (!readStatement() || !takeSign(';')) {
                    return false;
                }
                town.statements++;
            }
            return words.kind == Words.END || wrong(6, words.start);
        }

        private boolean wrong(int number, int at) {
            fault = number;
            faultAt = at;
            return false;
        }

        private boolean unfit() {
            return wrong(1, words.spot);
        }

        private boolean readStatement() {
            if (words.kind != Words.OWN) {
                return unfit();
            }
            switch (words.value) {
                case PLACE: return another(town.placeCount < MOST_PLACES) && readPlace();
                case STREET: return another(town.streetCount < MOST_STREETS) && readStreet();
                case STEP: return another(town.told.count < MOST_TOLD_STEPS) && readStep();
                case THING: return another(town.thingCount < MOST_THINGS) && readThing();
                case STANDS: return another(!town.hasStands()) && beginCode(false) && readSum(0) && endCode();
                case CLEVER: return another(!town.hasClever()) && beginCode(true) && readTest(0) && endCode();
                case HEAT: return another(true) && readHeat();
                case HOT: return another(true) && readHot();
                default: return unfit();
            }
        }

        private boolean another(boolean hasRoom) {
            if (!hasRoom) {
                return wrong(6, words.start);
            }
            words.advance();
            return true;
        }

        private boolean readPlace() {
            int name = newName();
            return name != NONE && town.addPlace(name);
        }

        private boolean readStreet() {
            int from = knownPlace();
            if (from == NONE || !takeOwn(TO)) {
                return false;
            }
            int at = words.start;
            int to = knownPlace();
            if (to == NONE) {
                return false;
            }
            if (to == from || town.streetBetween(from, to) != NONE) {
                return wrong(3, at);
            }
            if (!takeOwn(PACES)) {
                return false;
            }
            int paces = number(1, 99);
            return paces != NONE && town.addStreet(from, to, paces);
        }

        private boolean readStep() {
            int at = words.start;
            int place = knownPlace();
            if (place == NONE) {
                return false;
            }
            if (!town.canFollow(town.told, place)) {
                return wrong(3, at);
            }
            if (!takeOwn(FOR)) {
                return false;
            }
            int minutes = number(0, MOST_MINUTES);
            return minutes != NONE && town.told.append(place, minutes);
        }

        private boolean readThing() {
            int name = newName();
            if (name == NONE || !takeOwn(AT)) {
                return false;
            }
            int place = knownPlace();
            if (place == NONE || !takeOwn(PULL)) {
                return false;
            }
            int pull = number(0, 9);
            return pull != NONE && town.addThing(name, place, pull);
        }

        private boolean beginCode(boolean ofClever) {
            inClever = ofClever;
            if (ofClever) {
                town.cleverFrom = town.codeCount;
            } else {
                town.standsFrom = town.codeCount;
            }
            return true;
        }

        private boolean endCode() {
            town.addCode(Sums.STOP, 0);
            return true;
        }

        private boolean readHeat() {
            town.heat = number(0, 40);
            return town.heat != NONE;
        }

        private boolean readHot() {
            town.hot = number(0, 100);
            return town.hot != NONE;
        }

        private int newName() {
            int name = words.value;
            if (words.kind != Words.NAME) {
                unfit();
                return NONE;
            }
            if (town.isNamed(name)) {
                wrong(2, words.start);
                return NONE;
            }
            words.advance();
            return name;
        }

        private int knownPlace() {
            if (words.kind != Words.NAME) {
                unfit();
                return NONE;
            }
            int place = town.placeNamed(words.value);
            if (place == NONE) {
                wrong(3, words.start);
                return NONE;
            }
            words.advance();
            return place;
        }

        private int number(int least, int most) {
            int number = words.value;
            if (words.kind != Words.NUMBER) {
                unfit();
                return NONE;
            }
            if (number < least || number > most) {
                wrong(4, words.start);
                return NONE;
            }
            words.advance();
            return number;
        }

        private boolean takeOwn(int word) {
            if (!words.isOwn(word)) {
                return unfit();
            }
            words.advance();
            return true;
        }

        private boolean takeSign(int sign) {
            if (!words.isSign(sign)) {
                return unfit();
            }
            words.advance();
            return true;
        }

        /** Goes behind a ( or [ or not, if that is what is here, and it may be open beside those that are. */
        private boolean takeOpening(boolean isHere, int open) {
            if (!isHere) {
                return unfit();
            }
            if (open >= MOST_OPEN) {
                return wrong(5, words.start);
            }
            words.advance();
            return true;
        }

        private boolean readSum(int open) {
            if (!readProduct(open)) {
                return false;
            }
            for (int i = 0; i < MOST_TAPE; i++) {
                if (!words.isSign('+') && !words.isSign('-')) {
                    return true;
                }
                int sign = words.value;
                words.advance();
                if (!readProduct(open)) {
                    return false;
                }
                town.addCode(sign, 0);
            }
            return unfit();
        }

        private boolean readProduct(int open) {
            if (!readPart(open)) {
                return false;
            }
            for (int i = 0; i < MOST_TAPE; i++) {
                if (!words.isSign('*') && !words.isSign('/') && !words.isSign('%')) {
                    return true;
                }
                int sign = words.value;
                words.advance();
                if (!readPart(open)) {
                    return false;
                }
                town.addCode(sign, 0);
            }
            return unfit();
        }

        private boolean readPart(int open) {
            if (words.kind == Words.NUMBER) {
                town.addCode(Sums.NUMBER, words.value);
                words.advance();
                return true;
            }
            if (words.isSign('(')) {
                return takeOpening(true, open) && readSum(open + 1) && takeSign(')');
            }
            if (words.kind != Words.OWN) {
                return unfit();
            }
            int word = words.value;
            switch (word) {
                case HEAT:
                case YEAR:
                    return readFigure(word, true);
                case TOLD:
                case PULL:
                case STEP:
                case BEEN:
                    return readFigure(word, !inClever);
                case STEPS:
                case TIME:
                case LOOPS:
                    return readFigure(word, inClever);
                case MIN:
                case MAX:
                    return readOfTwo(word, open);
                case IF:
                    return readIf(open);
                default:
                    return unfit();
            }
        }

        private boolean readFigure(int word, boolean isHere) {
            if (!isHere) {
                return unfit();
            }
            town.addCode(Sums.FIGURE, word);
            words.advance();
            return true;
        }

        private boolean readOfTwo(int word, int open) {
            words.advance();
            if (!takeOpening(words.isSign('('), open) || !readSum(open + 1) || !takeSign(',')) {
                return false;
            }
            if (!readSum(open + 1) || !takeSign(')')) {
                return false;
            }
            town.addCode(word, 0);
            return true;
        }

        private boolean readIf(int open) {
            words.advance();
            if (!takeOpening(words.isSign('('), open) || !readTest(open + 1) || !takeSign(',')) {
                return false;
            }
            if (!readSum(open + 1) || !takeSign(',') || !readSum(open + 1) || !takeSign(')')) {
                return false;
            }
            town.addCode(IF, 0);
            return true;
        }

        private boolean readTest(int open) {
            if (!readBoth(open)) {
                return false;
            }
            for (int i = 0; i < MOST_TAPE; i++) {
                if (!words.isOwn(OR)) {
                    return true;
                }
                words.advance();
                if (!readBoth(open)) {
                    return false;
                }
                town.addCode(OR, 0);
            }
            return unfit();
        }

        private boolean readBoth(int open) {
            if (!readFact(open)) {
                return false;
            }
            for (int i = 0; i < MOST_TAPE; i++) {
                if (!words.isOwn(AND)) {
                    return true;
                }
                words.advance();
                if (!readFact(open)) {
                    return false;
                }
                town.addCode(AND, 0);
            }
            return unfit();
        }

        private boolean readFact(int open) {
            if (words.isOwn(NOT)) {
                if (!takeOpening(true, open) || !readFact(open + 1)) {
                    return false;
                }
                town.addCode(NOT, 0);
                return true;
            }
            if (words.isSign('[')) {
                return takeOpening(true, open) && readTest(open + 1) && takeSign(']');
            }
            if (words.isOwn(ALL)) {
                town.addCode(Sums.NUMBER, 1);
                words.advance();
                return true;
            }
            return readComparison(open);
        }

        private boolean readComparison(int open) {
            if (!readSum(open)) {
                return false;
            }
            if (!words.isSign('<') && !words.isSign('>') && !words.isSign('=')) {
                return unfit();
            }
            int sign = words.value;
            words.advance();
            if (!readSum(open)) {
                return false;
            }
            town.addCode(sign, 0);
            return true;
        }
    }

    /** Works out SUMS and TESTS (1 or 0), which are kept as code whose operands stand ahead of what joins them. */
    private static final class Sums {
        /** What joins is known by its sign or by its OWN WORD's number; these are unlike all of those. */
        static final int NUMBER = 200;
        static final int FIGURE = 201;
        static final int STOP = 202;
        /** Seven open brackets hold at most five operands each that wait for another one. */
        private static final int DEEPEST = 64;

        private final int[] waiting = new int[DEEPEST];
        /** By the number of the OWN WORD that asks for it. */
        final int[] figures = new int[OWN_COUNT];

        static int codeOf(int what, int operand) {
            return what << 16 | operand;
        }

        int work(int[] code, int from) {
            int top = 0;
            for (int i = Math.max(from, 0); i < code.length; i++) {
                int what = code[i] >> 16;
                int operand = code[i] & 0xffff;
                if (what == STOP) {
                    break;
                }
                if (what == NUMBER || what == FIGURE) {
                    if (top < DEEPEST) {
                        waiting[top] = what == NUMBER ? operand : figure(operand);
                        top++;
                    }
                } else {
                    top = join(what, top);
                }
            }
            return top > 0 ? waiting[top - 1] : 0;
        }

        private int figure(int word) {
            return word >= 0 && word < OWN_COUNT ? figures[word] : 0;
        }

        private int join(int what, int top) {
            if (what == NOT && top >= 1) {
                waiting[top - 1] = 1 - waiting[top - 1];
                return top;
            }
            if (what == IF && top >= 3) {
                waiting[top - 3] = waiting[top - 3] == 1 ? waiting[top - 2] : waiting[top - 1];
                return top - 2;
            }
            if (top >= 2) {
                waiting[top - 2] = ofTwo(what, waiting[top - 2], waiting[top - 1]);
                return top - 1;
            }
            return top;
        }

        private static int ofTwo(int what, int a, int b) {
            switch (what) {
                case '+': return limited((long) a + b);
                case '-': return limited((long) a - b);
                case '*': return limited((long) a * b);
                case '/': return b == 0 ? 0 : limited(Math.floorDiv(a, b));
                case '%': return b == 0 ? 0 : limited(Math.floorMod(a, b));
                case MIN: return Math.min(a, b);
                case MAX: return Math.max(a, b);
                case '<': return a < b ? 1 : 0;
                case '>': return a > b ? 1 : 0;
                case '=': return a == b ? 1 : 0;
                case AND: return a & b;
                case OR: return a | b;
                default: return 0;
            }
        }

        private static int limited(long result) {
            if (result > RESULT_LIMIT) {
                return RESULT_LIMIT;
            }
            return result < -RESULT_LIMIT ? -RESULT_LIMIT : (int) result;
        }
    }

    /** A TOWN as its text tells it; nothing in it changes by a YEAR or an ACT. */
    private static final class Town {
        int statements = 0;
        int placeCount = 0;
        final int[] placeNames = new int[MOST_PLACES];
        int streetCount = 0;
        final int[] streetFrom = new int[MOST_STREETS];
        final int[] streetTo = new int[MOST_STREETS];
        final int[] streetPaces = new int[MOST_STREETS];
        /** For each two PLACES the STREET between them, or NONE. */
        private final int[] links = new int[MOST_PLACES * MOST_PLACES];
        int thingCount = 0;
        final int[] thingNames = new int[MOST_THINGS];
        final int[] thingSpots = new int[MOST_THINGS];
        final int[] thingPulls = new int[MOST_THINGS];
        final Route told = new Route();
        int heat = 0;
        int hot = 0;
        /** Both the SUM and the TEST are here, a word or sign of the text each: it has no more than bytes. */
        final int[] code = new int[MOST_TAPE];
        int codeCount = 0;
        int standsFrom = NONE;
        int cleverFrom = NONE;

        Town() {
            clear();
        }

        void clear() {
            statements = 0;
            placeCount = 0;
            streetCount = 0;
            thingCount = 0;
            Arrays.fill(links, NONE);
            told.cutTo(0);
            heat = 20;
            hot = 0;
            codeCount = 0;
            standsFrom = NONE;
            cleverFrom = NONE;
        }

        boolean hasStands() {
            return standsFrom != NONE;
        }

        boolean hasClever() {
            return cleverFrom != NONE;
        }

        boolean addPlace(int name) {
            if (placeCount >= MOST_PLACES) {
                return false;
            }
            placeNames[placeCount] = name;
            placeCount++;
            return true;
        }

        boolean addStreet(int from, int to, int paces) {
            if (streetCount >= MOST_STREETS || !isSpot(from) || !isSpot(to)) {
                return false;
            }
            streetFrom[streetCount] = from;
            streetTo[streetCount] = to;
            streetPaces[streetCount] = paces;
            links[from * MOST_PLACES + to] = streetCount;
            links[to * MOST_PLACES + from] = streetCount;
            streetCount++;
            return true;
        }

        boolean addThing(int name, int place, int pull) {
            if (thingCount >= MOST_THINGS) {
                return false;
            }
            thingNames[thingCount] = name;
            thingSpots[thingCount] = place;
            thingPulls[thingCount] = pull;
            thingCount++;
            return true;
        }

        void addCode(int what, int operand) {
            if (codeCount < code.length) {
                code[codeCount] = Sums.codeOf(what, operand);
                codeCount++;
            }
        }

        int placeNamed(int name) {
            for (int i = 0; i < placeCount; i++) {
                if (placeNames[i] == name) {
                    return i;
                }
            }
            return NONE;
        }

        boolean isNamed(int name) {
            for (int i = 0; i < thingCount; i++) {
                if (thingNames[i] == name) {
                    return true;
                }
            }
            return placeNamed(name) != NONE;
        }

        private boolean isSpot(int place) {
            return place >= 0 && place < placeCount;
        }

        int streetBetween(int from, int to) {
            return isSpot(from) && isSpot(to) ? links[from * MOST_PLACES + to] : NONE;
        }

        int pacesBetween(int from, int to) {
            int street = streetBetween(from, to);
            return street == NONE ? 0 : streetPaces[street];
        }

        /** Whether a STEP in a PLACE may come behind the last one of a route, by STREETS, SHUT or not. */
        boolean canFollow(Route route, int place) {
            return route.count == 0 || streetBetween(route.lastSpot(), place) != NONE;
        }
    }

    /** STEPS in their order. */
    private static final class Route {
        final int[] spots = new int[MOST_STEPS];
        final int[] minutes = new int[MOST_STEPS];
        int count = 0;

        void copy(Route from) {
            System.arraycopy(from.spots, 0, spots, 0, from.count);
            System.arraycopy(from.minutes, 0, minutes, 0, from.count);
            count = from.count;
        }

        boolean isLike(Route other) {
            if (count != other.count) {
                return false;
            }
            for (int k = 0; k < count; k++) {
                if (spots[k] != other.spots[k] || minutes[k] != other.minutes[k]) {
                    return false;
                }
            }
            return true;
        }

        boolean append(int place, int stay) {
            if (count >= MOST_STEPS) {
                return false;
            }
            spots[count] = place;
            minutes[count] = stay;
            count++;
            return true;
        }

        void cutTo(int steps) {
            if (steps >= 0 && steps < count) {
                count = steps;
            }
        }

        int lastSpot() {
            return count > 0 ? spots[count - 1] : NONE;
        }

        boolean holds(int place) {
            for (int k = 0; k < count; k++) {
                if (spots[k] == place) {
                    return true;
                }
            }
            return false;
        }

        int beenAhead(int k) {
            int been = 0;
            for (int i = 0; i < k && k < count; i++) {
                if (spots[i] == spots[k]) {
                    been++;
                }
            }
            return been;
        }

        /** Puts PLACES, with 0 minutes, ahead of STEP k, if the route stays short enough. */
        boolean insert(int k, int[] places, int many) {
            if (k < 0 || k > count || many < 0 || many > places.length || count + many > MOST_STEPS) {
                return false;
            }
            System.arraycopy(spots, k, spots, k + many, count - k);
            System.arraycopy(minutes, k, minutes, k + many, count - k);
            for (int i = 0; i < many; i++) {
                spots[k + i] = places[i];
                minutes[k + i] = 0;
            }
            count += many;
            return true;
        }

        void leaveOutFirstLoop() {
            for (int from = 0; from < count; from++) {
                for (int to = from + 1; to < count; to++) {
                    if (spots[from] == spots[to]) {
                        System.arraycopy(spots, to, spots, from, count - to);
                        System.arraycopy(minutes, to, minutes, from, count - to);
                        count -= to - from;
                        return;
                    }
                }
            }
        }
    }

    /** The WAYS between all PLACES by the STREETS that are not SHUT. */
    private static final class Ways {
        private static final int FAR = 1000000;

        private final int[] direct = new int[MOST_PLACES * MOST_PLACES];
        private final int[] shortest = new int[MOST_PLACES * MOST_PLACES];

        void measure(Town town, int shutBits) {
            Arrays.fill(direct, FAR);
            for (int i = 0; i < town.streetCount; i++) {
                if ((shutBits >> i & 1) == 0) {
                    direct[town.streetFrom[i] * MOST_PLACES + town.streetTo[i]] = town.streetPaces[i];
                    direct[town.streetTo[i] * MOST_PLACES + town.streetFrom[i]] = town.streetPaces[i];
                }
            }
            System.arraycopy(direct, 0, shortest, 0, direct.length);
            for (int i = 0; i < MOST_PLACES; i++) {
                shortest[i * MOST_PLACES + i] = 0;
            }
            for (int over = 0; over < town.placeCount; over++) {
                shortenOver(over, town.placeCount);
            }
        }

        private void shortenOver(int over, int places) {
            for (int from = 0; from < places; from++) {
                int ahead = shortest[from * MOST_PLACES + over];
                if (ahead < FAR) {
                    for (int to = 0; to < places; to++) {
                        int sum = ahead + shortest[over * MOST_PLACES + to];
                        if (sum < shortest[from * MOST_PLACES + to]) {
                            shortest[from * MOST_PLACES + to] = sum;
                        }
                    }
                }
            }
        }

        private static boolean isSpot(int place) {
            return place >= 0 && place < MOST_PLACES;
        }

        int paces(int from, int to) {
            if (!isSpot(from) || !isSpot(to)) {
                return NONE;
            }
            int sum = shortest[from * MOST_PLACES + to];
            return sum < FAR ? sum : NONE;
        }

        private int next(int from, int to) {
            int left = paces(from, to);
            for (int over = 0; over < MOST_PLACES && left > 0; over++) {
                int first = direct[from * MOST_PLACES + over];
                if (first < FAR && first + shortest[over * MOST_PLACES + to] == left) {
                    return over;
                }
            }
            return NONE;
        }

        /** Puts the PLACES between two into a row: how many, or NONE without a WAY. */
        int between(int from, int to, int[] row) {
            if (paces(from, to) == NONE) {
                return NONE;
            }
            int at = next(from, to);
            int many = 0;
            while (at != NONE && at != to && many < row.length) {
                row[many] = at;
                many++;
                at = next(at, to);
            }
            return many;
        }
    }

    /** What YEARS and ACTS change. */
    private static final class State {
        int year = 0;
        int shutBits = 0;
        final int[] thingSpots = new int[MOST_THINGS];
        final Route route = new Route();
        /** How many YEARS were ever KEPT, told or not: to undo an ACT it is enough to count back. */
        int keptCount = 0;

        void beginIn(Town town) {
            year = 0;
            shutBits = 0;
            System.arraycopy(town.thingSpots, 0, thingSpots, 0, MOST_THINGS);
            route.copy(town.told);
            keptCount = 0;
        }

        void copy(State from) {
            year = from.year;
            shutBits = from.shutBits;
            System.arraycopy(from.thingSpots, 0, thingSpots, 0, MOST_THINGS);
            route.copy(from.route);
            keptCount = from.keptCount;
        }

        void write(Bytes out, Town town) {
            out.put(year >> 8);
            out.put(year);
            for (int i = 0; i < town.streetCount; i++) {
                out.put(shutBits >> i & 1);
            }
            for (int i = 0; i < town.thingCount; i++) {
                out.put(thingSpots[i]);
            }
            out.put(route.count);
            for (int k = 0; k < route.count; k++) {
                out.put(route.spots[k]);
                out.put(route.minutes[k]);
            }
            out.put(checkByte(out, out.size));
        }

        private static int checkByte(Bytes image, int size) {
            int c = 197;
            for (int i = 0; i < size; i++) {
                c = (5 * c + image.at(i)) % 251;
            }
            return c;
        }

        static boolean isImage(Bytes image, Town town) {
            int things = 2 + town.streetCount;
            int steps = things + town.thingCount;
            int many = image.at(steps);
            if (many == NONE || many > MOST_STEPS || image.size != steps + 2 + 2 * many) {
                return false;
            }
            if (yearIn(image) > LAST_YEAR || image.at(image.size - 1) != checkByte(image, image.size - 1)) {
                return false;
            }
            for (int i = 2; i < things; i++) {
                if (image.at(i) > 1) {
                    return false;
                }
            }
            for (int i = things; i < steps; i++) {
                if (image.at(i) >= town.placeCount) {
                    return false;
                }
            }
            return areSteps(image, town, steps + 1, many);
        }

        private static int yearIn(Bytes image) {
            return image.at(0) * 256 + image.at(1);
        }

        private static boolean areSteps(Bytes image, Town town, int from, int many) {
            for (int k = 0; k < many; k++) {
                int at = from + 2 * k;
                if (image.at(at) >= town.placeCount || image.at(at + 1) > MOST_MINUTES) {
                    return false;
                }
                if (k > 0 && town.streetBetween(image.at(at - 2), image.at(at)) == NONE) {
                    return false;
                }
            }
            return true;
        }

        /** Asks isImage() first. */
        void take(Bytes image, Town town) {
            int things = 2 + town.streetCount;
            int steps = things + town.thingCount;
            int many = image.at(steps);
            year = yearIn(image);
            shutBits = 0;
            for (int i = 0; i < town.streetCount; i++) {
                shutBits |= image.at(2 + i) << i;
            }
            for (int i = 0; i < town.thingCount; i++) {
                thingSpots[i] = image.at(things + i);
            }
            route.cutTo(0);
            for (int k = 0; k < many; k++) {
                route.append(image.at(steps + 1 + 2 * k), image.at(steps + 2 + 2 * k));
            }
            keptCount = 0;
        }
    }

    /** How YEARS go: a route of its own, which begins as the ROUTE and becomes what YEARS make of it. */
    private static final class Pageant {
        final Route route = new Route();
        final int[] stood = new int[MOST_STEPS];
        final int[] comes = new int[MOST_STEPS];
        private final int[] been = new int[MOST_STEPS];
        private final int[] pulls = new int[MOST_PLACES];
        private final int[] stoodByPlace = new int[MOST_PLACES];
        private final int[] between = new int[MOST_PLACES];
        private final Route before = new Route();
        final Ways ways = new Ways();
        private final Sums sums = new Sums();
        private Town town;
        private int shutBits = 0;
        private int year = 0;
        int time = 0;
        int standing = 0;
        int pairs = 0;

        Pageant(Town town) {
            this.town = town;
        }

        void begin(Town of, State from) {
            beginRoute(of, from, 0);
            gatherPulls(from, 0);
        }

        private void beginRoute(Town of, State from, int shutAsWell) {
            town = of;
            year = from.year;
            route.copy(from.route);
            shutBits = from.shutBits | shutAsWell;
            if (shutBits != 0) {
                ways.measure(town, shutBits);
            }
        }

        private void gatherPulls(State from, int takenAway) {
            Arrays.fill(pulls, 0);
            for (int i = 0; i < town.thingCount; i++) {
                if ((takenAway >> i & 1) == 0) {
                    pulls[from.thingSpots[i]] += town.thingPulls[i];
                }
            }
        }

        /** The YEAR up to its end, but for what the mare leaves out. */
        void go(int heat) {
            goRound();
            sums.figures[HEAT] = heat;
            sums.figures[YEAR] = year;
            time = 0;
            standing = 0;
            pairs = 0;
            for (int k = 0; k < route.count; k++) {
                if (k > 0) {
                    time += town.pacesBetween(route.spots[k - 1], route.spots[k]);
                }
                comes[k] = time;
                been[k] = route.beenAhead(k);
                pairs += been[k];
                stood[k] = standingAt(k);
                time += stood[k];
                standing += stood[k];
            }
        }

        /** Behind go(): the mare leaves out a LOOP, or not, and the YEAR is one more. */
        void pass() {
            if (town.hasClever()) {
                sums.figures[STEPS] = route.count;
                sums.figures[TIME] = time;
                sums.figures[LOOPS] = pairs;
                if (sums.work(town.code, town.cleverFrom) == 1) {
                    route.leaveOutFirstLoop();
                }
            }
            year = Math.min(LAST_YEAR, year + 1);
        }

        boolean leavesRoute(int heat) {
            before.copy(route);
            go(heat);
            pass();
            return before.isLike(route);
        }

        void leaveIn(State state) {
            state.year = year;
            state.route.copy(route);
        }

        private void goRound() {
            for (int k = 1; k < route.count && k < MOST_STEPS; k++) {
                int street = town.streetBetween(route.spots[k - 1], route.spots[k]);
                if (street != NONE && (shutBits >> street & 1) == 1) {
                    int many = ways.between(route.spots[k - 1], route.spots[k], between);
                    if (many == NONE || !route.insert(k, between, many)) {
                        route.cutTo(k);
                    }
                }
            }
        }

        private int standingAt(int k) {
            if (!town.hasStands()) {
                return route.minutes[k];
            }
            sums.figures[TOLD] = route.minutes[k];
            sums.figures[PULL] = pulls[route.spots[k]];
            sums.figures[STEP] = k;
            sums.figures[BEEN] = been[k];
            int minutes = sums.work(town.code, town.standsFrom);
            return Math.max(0, Math.min(MOST_STANDING, minutes));
        }

        /** Behind go(): whether they would STAND nowhere longer without some THINGS. */
        boolean standsWithin(int most, State from, int takenAway) {
            gatherPulls(from, takenAway);
            for (int k = 0; k < route.count; k++) {
                if (standingAt(k) > most) {
                    return false;
                }
            }
            return true;
        }

        boolean comesBy(Town of, State from, int shutAsWell, int place) {
            beginRoute(of, from, shutAsWell);
            goRound();
            return route.holds(place);
        }

        /** Behind go(), ahead of seenFrom(). */
        void sumByPlace() {
            Arrays.fill(stoodByPlace, 0);
            for (int k = 0; k < route.count; k++) {
                stoodByPlace[route.spots[k]] += stood[k];
            }
        }

        int seenFrom(int placeBits) {
            int seen = 0;
            for (int i = 0; i < MOST_PLACES; i++) {
                if ((placeBits >> i & 1) == 1) {
                    seen += stoodByPlace[i];
                }
            }
            return seen;
        }
    }

    /** What is KEPT, and the ACTS that can be undone, each as all was ahead of it. */
    private static final class Past {
        /** As many as are told when all ACTS are undone, and those of the ACTS themselves. */
        private static final int KEPT_ROOM = MOST_KEPT + MOST_ACTS * MOST_YEARS;

        private final int[] keptYears = new int[KEPT_ROOM];
        private final int[] keptSteps = new int[KEPT_ROOM];
        private final int[] keptTimes = new int[KEPT_ROOM];
        private final State[] acts = new State[MOST_ACTS];
        private int nextAct = 0;
        int actCount = 0;

        Past() {
            for (int i = 0; i < acts.length; i++) {
                acts[i] = new State();
            }
        }

        void forgetActs() {
            actCount = 0;
        }

        void remember(State state) {
            acts[nextAct].copy(state);
            nextAct = (nextAct + 1) % MOST_ACTS;
            actCount = Math.min(MOST_ACTS, actCount + 1);
        }

        boolean takeBack(State state) {
            if (actCount == 0) {
                return false;
            }
            nextAct = (nextAct + MOST_ACTS - 1) % MOST_ACTS;
            actCount--;
            state.copy(acts[nextAct]);
            return true;
        }

        void keep(State state, Pageant pageant) {
            int at = Math.floorMod(state.keptCount, KEPT_ROOM);
            keptYears[at] = pageant.year;
            keptSteps[at] = pageant.route.count;
            keptTimes[at] = pageant.time;
            state.keptCount++;
        }

        int keptOf(int number, int what) {
            int at = Math.floorMod(number, KEPT_ROOM);
            switch (what) {
                case 0: return keptYears[at];
                case 1: return keptSteps[at];
                case 2: return keptTimes[at];
                default: return NONE;
            }
        }
    }

    /** What is told of a route, and the routes that it leaves. */
    private static final class Half {
        private final int[] numbers = new int[MOST_ROWS];
        private final int[] spots = new int[MOST_ROWS];
        /** For each STEP the PLACES, as bits, in which it may be. */
        private final int[] open = new int[MOST_ROWS];
        /** For each STEP and PLACE how many routes lead on from there, and how many lead there. */
        private final long[] onward = new long[MOST_ROWS * MOST_PLACES];
        private final long[] toward = new long[MOST_ROWS * MOST_PLACES];
        int count = 0;
        int askedStep = NONE;
        long askedLeft = 0;

        void clear() {
            count = 0;
        }

        boolean fits(Bytes tape, int places) {
            if (tape.size < 2 || tape.size > 2 * MOST_ROWS || tape.size % 2 != 0) {
                return false;
            }
            for (int i = 0; i < tape.size; i += 2) {
                if (tape.at(i) >= MOST_ROWS || tape.at(i + 1) >= places) {
                    return false;
                }
            }
            return true;
        }

        /** Asks fits() first. */
        void take(Bytes tape) {
            count = Math.min(MOST_ROWS, tape.size / 2);
            for (int i = 0; i < count; i++) {
                numbers[i] = tape.at(2 * i);
                spots[i] = tape.at(2 * i + 1);
            }
        }

        static int capped(long many) {
            return (int) Math.min(MOST_FILLED, many);
        }

        private void openPlaces(Town town, int n) {
            Arrays.fill(open, (1 << town.placeCount) - 1);
            for (int i = 0; i < count; i++) {
                // a row beyond the last STEP is met by no route, so the first STEP has no PLACE left
                int step = numbers[i] < n ? numbers[i] : 0;
                open[step] &= numbers[i] < n ? 1 << spots[i] : 0;
            }
        }

        private boolean mayBe(int step, int place) {
            return (open[step] >> place & 1) == 1;
        }

        /** No count overflows: 14 STREETS leave fewer than 10 to the 15 routes of 20 STEPS. */
        long countRoutes(Town town, int n) {
            openPlaces(town, n);
            for (int k = n - 1; k >= 0; k--) {
                for (int place = 0; place < town.placeCount; place++) {
                    long many = k == n - 1 ? 1 : sumBeside(town, onward, k + 1, place);
                    onward[k * MOST_PLACES + place] = mayBe(k, place) ? many : 0;
                }
            }
            return sumOf(town, onward, 0);
        }

        private static long sumBeside(Town town, long[] counts, int step, int place) {
            long sum = 0;
            for (int other = 0; other < town.placeCount; other++) {
                if (town.streetBetween(place, other) != NONE) {
                    sum += counts[step * MOST_PLACES + other];
                }
            }
            return sum;
        }

        private static long sumOf(Town town, long[] counts, int step) {
            long sum = 0;
            for (int place = 0; place < town.placeCount; place++) {
                sum += counts[step * MOST_PLACES + place];
            }
            return sum;
        }

        int placeOfFirst(Town town, int n, int k) {
            if (countRoutes(town, n) == 0) {
                return NONE;
            }
            int at = NONE;
            for (int step = 0; step <= k; step++) {
                at = leastOnward(town, step, at);
            }
            return at;
        }

        private int leastOnward(Town town, int step, int from) {
            for (int place = 0; place < town.placeCount; place++) {
                boolean leads = step == 0 || town.streetBetween(from, place) != NONE;
                if (leads && onward[step * MOST_PLACES + place] > 0) {
                    return place;
                }
            }
            return NONE;
        }

        /** Behind countRoutes() for the same n. */
        void ask(Town town, int n) {
            for (int k = 0; k < n; k++) {
                for (int place = 0; place < town.placeCount; place++) {
                    long many = k == 0 ? 1 : sumBeside(town, toward, k - 1, place);
                    toward[k * MOST_PLACES + place] = mayBe(k, place) ? many : 0;
                }
            }
            askedStep = NONE;
            for (int k = 0; k < n; k++) {
                long most = mostAt(town, k);
                if (askedStep == NONE || most < askedLeft) {
                    askedStep = k;
                    askedLeft = most;
                }
            }
        }

        private long mostAt(Town town, int step) {
            long most = 0;
            for (int place = 0; place < town.placeCount; place++) {
                int at = step * MOST_PLACES + place;
                most = Math.max(most, toward[at] * onward[at]);
            }
            return most;
        }
    }
}
