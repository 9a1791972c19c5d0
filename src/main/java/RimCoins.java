import java.util.NoSuchElementException;

/** A valley in which a coin may go to nobody whose name is on its rim, told as a text. */
public final class RimCoins {
    public static final int NONE = -1;

    private static final int NO_SUCH = -2;
    private static final int VALLEY_BYTES = 900;
    private static final int SENTENCE_BYTES = 200;
    private static final int MOST_SUM = 999;
    private static final int MOST_DAY_SUM = 99;
    private static final int MOST_DAYS = 400;
    private static final int PLACES = 2;

    private final Tape tape = new Tape();
    private final Valley valley = new Valley();
    private final Valley draft = new Valley();
    private final Valley[] places = new Valley[PLACES];
    private int placesKept;
    private final Payment payment = new Payment();
    private final Journey journey = new Journey();
    private final Orderings orderings = new Orderings();
    private final Lots lots = new Lots();
    private final Lots tradeLots = new Lots();
    private boolean daysDrawn;
    private int latestFault;
    private long givenCoins;
    private int givenAmong;

    public RimCoins() {
        for (int k = 0; k < PLACES; k++) {
            places[k] = new Valley();
        }
    }

    public int feed(int a, int b, int c, int d, int e) {
        if (!tape.hasRoom()) {
            return NONE;
        }
        tape.add(a);
        tape.add(b);
        tape.add(c);
        tape.add(d);
        tape.add(e);
        return tape.length;
    }

    public boolean end(int n) {
        if (n < 0 || n > tape.length) {
            return false;
        }
        tape.length = n;
        return true;
    }

    public int valley() {
        tape.open(VALLEY_BYTES);
        ValleyText text = new ValleyText(tape, draft);
        boolean good = text.read();
        if (good) {
            valley.copyFrom(draft);
        }
        return closeTape(good, text.lines);
    }

    private int closeTape(boolean good, int answer) {
        latestFault = good ? 0 : tape.fault;
        tape.length = 0;
        return good ? answer : -1 - tape.faultPlace;
    }

    public int fault() {
        return latestFault;
    }

    public int who(int w, int what) throws NoSuchElementException {
        if (!isWho(w) || what < 0 || what > 5) {
            throw new NoSuchElementException("no such WHO or question");
        }
        switch (what) {
            case 0:
                return valley.folk.village[w];
            case 1:
                return lowest(valley.folk.house[w]);
            case 2:
                return valley.folk.isDead(w) ? 1 : 0;
            case 3:
                return valley.folk.isStranger(w) ? 1 : 0;
            case 4:
                return Long.bitCount(valley.purse.coinsOf(w));
            default:
                return valley.purse.worth(valley.purse.coinsOf(w));
        }
    }

    public int coin(int c, int what) throws NoSuchElementException {
        if (!isCoin(c) || what < 0 || what > 4) {
            throw new NoSuchElementException("no such COIN or question");
        }
        switch (what) {
            case 0:
                return valley.purse.value[c];
            case 1:
                return valley.purse.owner[c];
            case 2:
                return valley.purse.names(c);
            case 3:
                return Integer.bitCount(valley.goers(c));
            default:
                return valley.forgery(c);
        }
    }

    public int rim(int c, int i) {
        return isCoin(c) ? valley.purse.nameAt(c, i) : NONE;
    }

    public int near(int a, int b) {
        if (!Folk.isVillage(a) || !Folk.isVillage(b)) {
            return NONE;
        }
        return valley.folk.areNear(a, b) ? 1 : 0;
    }

    public boolean road(int a, int b) {
        if (!Folk.isVillage(a) || !Folk.isVillage(b) || valley.folk.areNear(a, b)) {
            return false;
        }
        valley.folk.join(a, b);
        return true;
    }

    public int why(int c, int w) {
        return isCoin(c) && isWho(w) ? valley.whyNot(c, w) : NONE;
    }

    public int pay(int c, int w) {
        int reason = isCoin(c) && isWho(w) ? valley.whyNot(c, w) : NONE;
        if (reason == 0) {
            valley.purse.move(c, w);
        }
        return reason;
    }

    public int whom(int c) {
        return isCoin(c) ? valley.goers(c) : NONE;
    }

    public int exact(int a, int b, int sum) {
        if (!isWho(a) || !isWho(b) || sum < 1 || sum > MOST_SUM) {
            return NO_SUCH;
        }
        return told(payment.choose(valley.folk, valley.purse, a, b, sum));
    }

    /** clear() and orders() choose COINS too, but given() is not of those. */
    private int told(int coins) {
        if (coins >= 0) {
            givenCoins = payment.coins;
            givenAmong = valley.purse.size;
        }
        return coins;
    }

    public int given(int c) {
        if (c < 0 || c >= givenAmong) {
            return NONE;
        }
        return (int) (givenCoins >>> c & 1L);
    }

    public int settle(int a, int b, int sum) {
        int coins = exact(a, b, sum);
        if (coins >= 0) {
            valley.purse.moveAll(payment.coins, b);
        }
        return coins;
    }

    public int most(int a, int b) {
        if (!isWho(a) || !isWho(b)) {
            return NONE;
        }
        return valley.purse.worth(valley.purse.goingTo(valley.folk, a, b));
    }

    public int payable(int a, int sum) {
        if (!isWho(a) || sum < 1 || sum > MOST_SUM) {
            return NONE;
        }
        int whos = 0;
        for (int b = 0; b < valley.folk.size; b++) {
            if (payment.choose(valley.folk, valley.purse, a, b, sum) >= 0) {
                whos |= 1 << b;
            }
        }
        return whos;
    }

    public int keep(int a, int b, int n, int c, int m) {
        boolean such = isWho(a) && isWho(b) && isWho(c) && isDaySum(n) && isDaySum(m);
        if (!such) {
            return NO_SUCH;
        }
        long today = valley.purse.goingTo(valley.folk, a, b);
        long tomorrow = valley.purse.goingTo(valley.folk, a, c);
        return told(payment.chooseForTwoDays(valley.purse, today, n, tomorrow, m));
    }

    private static boolean isDaySum(int sum) {
        return sum >= 1 && sum <= MOST_DAY_SUM;
    }

    public int change(int c, int d) {
        if (!isCoin(c) || !isCoin(d)) {
            return NONE;
        }
        int reason = valley.whyNoChange(c, d);
        if (reason == 0) {
            valley.swap(c, d);
        }
        return reason;
    }

    public int earned(int w) {
        return isWho(w) ? valley.folk.earned[w] : NONE;
    }

    public int changed(int c, int b) {
        if (!isCoin(c) || !isWho(b)) {
            return NONE;
        }
        int found = NONE;
        for (int d = 0; d < valley.purse.size; d++) {
            boolean more = found == NONE || valley.purse.value[d] > valley.purse.value[found];
            if (more && valley.whyNoChange(c, d) == 0 && valley.goesOnAfterChange(c, d, b)) {
                found = d;
            }
        }
        return found;
    }

    public boolean steal(int w, int c) {
        if (!isWho(w) || !isCoin(c) || valley.folk.isDead(w) || valley.purse.owner[c] == w) {
            return false;
        }
        valley.purse.owner[c] = w;
        return true;
    }

    public boolean wed(int a, int b) {
        if (!isWho(a) || !isWho(b) || a == b || !valley.folk.isFree(a) || !valley.folk.isFree(b)) {
            return false;
        }
        valley.folk.marry(a, b);
        return true;
    }

    public int born(int village) {
        if (!Folk.isVillage(village) || valley.folk.size >= Folk.MOST) {
            return NONE;
        }
        return valley.folk.add(0L, village);
    }

    public int dies(int w, int heir) {
        if (!isWho(w) || !isWho(heir) || w == heir) {
            return NONE;
        }
        if (valley.folk.isDead(w) || valley.folk.isDead(heir)) {
            return NONE;
        }
        return valley.bury(w, heir);
    }

    public int stuck(int k) {
        return countOrOne(valley.stuckCoins(), k);
    }

    private static int countOrOne(long coins, int k) {
        if (k == NONE) {
            return Long.bitCount(coins);
        }
        int passed = 0;
        for (int c = 0; c < Purse.MOST; c++) {
            if ((coins >>> c & 1L) != 0L) {
                if (passed == k) {
                    return c;
                }
                passed++;
            }
        }
        return NONE;
    }

    public int frees(int village) {
        return Folk.isVillage(village) ? valley.freedIn(village) : NONE;
    }

    public int cradle() {
        int found = 0;
        for (int village = 1; village < Folk.VILLAGES; village++) {
            if (valley.freedIn(village) > valley.freedIn(found)) {
                found = village;
            }
        }
        return found;
    }

    public int opens() {
        int found = NONE;
        int fewest = 0;
        for (int a = 0; a < Folk.VILLAGES; a++) {
            for (int b = a + 1; b < Folk.VILLAGES; b++) {
                if (!valley.folk.areNear(a, b)) {
                    int left = stuckWithRoad(a, b);
                    if (found == NONE || left < fewest) {
                        found = 10 * a + b;
                        fewest = left;
                    }
                }
            }
        }
        return found;
    }

    private int stuckWithRoad(int a, int b) {
        draft.copyFrom(valley);
        draft.folk.join(a, b);
        return Long.bitCount(draft.stuckCoins());
    }

    public int hands(int c, int w) {
        return isCoin(c) && isWho(w) ? journey.goTo(valley, c, w) : NONE;
    }

    public int handAt(int i) {
        return journey.handOf(i);
    }

    public int again(int c) {
        return isCoin(c) ? journey.goRound(valley, c) : NONE;
    }

    public int ever(int c) {
        if (!isCoin(c)) {
            return NONE;
        }
        return journey.goesForEver(valley, c) ? 1 : 0;
    }

    public int debt(int k, int what) throws NoSuchElementException {
        if (!isDebt(k) || what < 0 || what > 3) {
            throw new NoSuchElementException("no such DEBT or question");
        }
        switch (what) {
            case 0:
                return valley.debtor[k];
            case 1:
                return valley.creditor[k];
            case 2:
                return valley.owed[k];
            default:
                return valley.isCleared(k) ? 1 : 0;
        }
    }

    public int clear(int k) {
        if (!isDebt(k) || valley.isCleared(k)) {
            return NO_SUCH;
        }
        int coins = payment.payDebt(valley, valley.purse, k);
        if (coins >= 0) {
            valley.cleared |= 1 << k;
        }
        return coins;
    }

    public int orders() {
        boolean good = orderings.take(tape, valley);
        tape.length = 0;
        return good ? orderings.best(valley, payment) : NONE;
    }

    public int orderAt(int i) {
        return orderings.debtAt(i);
    }

    public int ways(int c, int first, int n) {
        if (!isCoin(c) || !isWho(first) || n < 1 || n > Journey.MOST_WAY) {
            return NONE;
        }
        return journey.countWays(valley, c, first, n);
    }

    public int had(int i) {
        return journey.hadBy(i);
    }

    public int days(int n, int seed) {
        if (n < 1 || n > MOST_DAYS || valley.folk.size == 0 || valley.purse.size == 0) {
            return NONE;
        }
        daysDrawn = true;
        lots.begin(seed);
        for (int day = 0; day < n; day++) {
            lots.passDay(valley);
        }
        return lots.went;
    }

    public int drawn(int what) {
        if (!daysDrawn) {
            return NONE;
        }
        switch (what) {
            case 0:
                return lots.refused;
            case 1:
                return lots.births;
            case 2:
                return lots.thefts;
            default:
                return NONE;
        }
    }

    public int trade(int r, int n, int seed) {
        if (r < 0 || r > Purse.MOST_RIM || n < 1 || n > MOST_DAYS) {
            return NONE;
        }
        if (valley.folk.size == 0 || valley.purse.size == 0) {
            return NONE;
        }
        draft.copyFrom(valley);
        draft.purse.shorten(r);
        tradeLots.begin(seed);
        for (int day = 0; day < n; day++) {
            tradeLots.drawPayment(draft);
        }
        return tradeLots.went;
    }

    public int sentence() {
        tape.open(SENTENCE_BYTES);
        boolean good = draft.sentence.read(tape, valley.folk);
        if (good) {
            valley.sentence.copyFrom(draft.sentence);
        }
        return closeTape(good, draft.sentence.ones);
    }

    public int said(int k) {
        if (valley.sentence.ones == 0) {
            return NONE;
        }
        return countOrOne(valley.sentence.coinsSaid(valley), k);
    }

    public boolean image(int k) {
        if (k < 0 || k >= PLACES) {
            return false;
        }
        places[k].copyFrom(valley);
        placesKept |= 1 << k;
        return true;
    }

    public boolean restore(int k) {
        if (k < 0 || k >= PLACES || (placesKept >> k & 1) == 0) {
            return false;
        }
        valley.copyFrom(places[k]);
        return true;
    }

    public int count(int what) {
        switch (what) {
            case 0:
                return valley.folk.size;
            case 1:
                return valley.purse.size;
            case 2:
                return valley.debts;
            case 3:
                return valley.purse.rimSize;
            case 4:
                return valley.fee;
            case 5:
                return valley.law;
            case 6:
                return valley.folk.roads();
            case 7:
                return Integer.bitCount(valley.folk.strangers);
            case 8:
                return tape.length;
            default:
                return NONE;
        }
    }

    private boolean isWho(int w) {
        return valley.folk.has(w);
    }

    private boolean isCoin(int c) {
        return c >= 0 && c < valley.purse.size;
    }

    private boolean isDebt(int k) {
        return k >= 0 && k < valley.debts;
    }

    /** The number of the lowest bit of bits that are not 0. */
    private static int lowest(int bits) {
        return Integer.bitCount((bits & -bits) - 1);
    }

    /** The WORDS that are no NAMES; NAME stands for every other one. */
    private enum Word {
        RIM("rim"), WHO("who"), ROAD("road"), COIN("coin"), OWES("owes"), STRANGER("stranger"), FEE("fee"),
        DEAD("dead"), RUBBED("rubbed"), STAYS("stays"), HEIRS("heirs"),
        OR("or"), AND("and"), NOT("not"), HELD("held"), BEARS("bears"), GOES("goes"), STUCK("stuck"),
        FORGED("forged"), VALUE("value"), NAMES("names"), PLACE("place"),
        NAME("");

        private static final Word[] ALL = values();

        private final long code;

        Word(String text) {
            long made = 0L;
            for (int i = 0; i < text.length(); i++) {
                made = longer(made, text.charAt(i));
            }
            code = made;
        }

        /** Eight letters of five bits stand in a long, so that no text need be made for a WORD. */
        static long longer(long code, int letter) {
            return (code << 5) + (letter - 'a' + 1);
        }

        static Word of(long code) {
            for (Word word : ALL) {
                if (word.code == code) {
                    return word;
                }
            }
            return NAME;
        }
    }

    /** The tape's bytes, and the reading of TOKENS from them. */
    private static final class Tape {
        static final int MOST = 940;
        static final int FED = 20;
        static final int END = 0;
        static final int BAD = 1;
        static final int WORD = 2;
        static final int NUMBER = 3;
        static final int LETTERS = 8;
        static final int DIGITS = 3;

        private final byte[] bytes = new byte[MOST];
        private int length;
        private int limit;
        private int ahead;
        /** END, BAD, WORD, NUMBER, or of all others the sign itself. */
        private int sort;
        private int place;
        private int number;
        private long code;
        private Word word = Word.NAME;
        private int fault;
        private int faultPlace;

        boolean hasRoom() {
            return length + FED <= MOST;
        }

        void add(int four) {
            for (int shift = 24; shift >= 0 && length < MOST; shift -= 8) {
                bytes[length] = (byte) (four >>> shift);
                length++;
            }
        }

        int signAt(int i) {
            return i >= 0 && i < length && i < MOST ? bytes[i] & 255 : 0;
        }

        void open(int most) {
            limit = most;
            ahead = 0;
            fault = 0;
            faultPlace = 0;
            next();
        }

        void next() {
            while (ahead < length && isBlank(signAt(ahead))) {
                ahead++;
            }
            place = ahead;
            if (length > limit && ahead >= limit) {
                place = limit;
                sort = BAD;
            } else if (ahead >= length) {
                sort = END;
            } else if (isOfRun(signAt(ahead))) {
                readRun();
            } else {
                sort = isMark(signAt(ahead)) ? signAt(ahead) : BAD;
                ahead++;
            }
        }

        private void readRun() {
            int letters = 0;
            int digits = 0;
            code = 0L;
            number = 0;
            for (; ahead < length && isOfRun(signAt(ahead)); ahead++) {
                int sign = signAt(ahead);
                if (isLetter(sign)) {
                    letters++;
                    code = Word.longer(code, sign);
                } else {
                    digits++;
                    number = number * 10 + (sign - '0');
                }
            }
            if (digits == 0 && letters <= LETTERS) {
                sort = WORD;
                word = Word.of(code);
            } else {
                sort = letters == 0 && digits <= DIGITS ? NUMBER : BAD;
            }
        }

        boolean isWord(Word wanted) {
            return sort == WORD && word == wanted;
        }

        /** The FAULT is at the TOKEN that is looked at; false, so that readers hand it on. */
        boolean fail(int kind) {
            fault = kind;
            faultPlace = place;
            return false;
        }

        private static boolean isBlank(int sign) {
            return sign == 32 || sign == 10;
        }

        private static boolean isLetter(int sign) {
            return sign >= 'a' && sign <= 'z';
        }

        private static boolean isOfRun(int sign) {
            return sign >= 'a' && sign <= 'z' || sign >= '0' && sign <= '9';
        }

        private static boolean isMark(int sign) {
            return sign == ';' || sign >= '<' && sign <= '>' || sign == '(' || sign == ')' || sign == '.';
        }
    }

    /** Reads a VALLEY, LINE by LINE, into a draft. */
    private static final class ValleyText {
        static final int MOST_TOLD = 16;

        private final Tape tape;
        private final Valley draft;
        private int lines;
        private int number;
        private int found;
        private boolean rimTold;
        private boolean feeTold;
        private boolean lawTold;

        ValleyText(Tape tape, Valley draft) {
            this.tape = tape;
            this.draft = draft;
        }

        boolean read() {
            draft.empty();
            for (int i = 0; i < VALLEY_BYTES && tape.sort != Tape.END; i++) {
                if (!readLine()) {
                    return false;
                }
                if (tape.sort != ';') {
                    return tape.fail(1);
                }
                tape.next();
                lines++;
            }
            return true;
        }

        private boolean readLine() {
            if (tape.sort != Tape.WORD) {
                return tape.fail(1);
            }
            switch (tape.word) {
                case RIM:
                    return readRim();
                case WHO:
                    return readWho();
                case ROAD:
                    return readRoad();
                case COIN:
                    return readCoin();
                case OWES:
                    return readDebt();
                case STRANGER:
                    return readStranger();
                case FEE:
                    return readFee();
                case DEAD:
                    return readLaw();
                default:
                    return tape.fail(1);
            }
        }

        private boolean readRim() {
            if (rimTold || draft.purse.size > 0) {
                return tape.fail(3);
            }
            rimTold = true;
            tape.next();
            if (!takesNumber(0, Purse.MOST_RIM)) {
                return false;
            }
            draft.purse.rimSize = number;
            return true;
        }

        private boolean readWho() {
            if (draft.folk.size >= MOST_TOLD) {
                return tape.fail(4);
            }
            tape.next();
            if (!tape.isWord(Word.NAME)) {
                return tape.fail(1);
            }
            if (draft.folk.find(tape.code) != NONE) {
                return tape.fail(3);
            }
            int w = draft.folk.add(tape.code, 0);
            tape.next();
            if (tape.sort != Tape.NUMBER) {
                return true;
            }
            if (!takesNumber(0, Folk.VILLAGES - 1)) {
                return false;
            }
            draft.folk.settleIn(w, number);
            return true;
        }

        private boolean readRoad() {
            tape.next();
            if (!takesNumber(0, Folk.VILLAGES - 1)) {
                return false;
            }
            int a = number;
            if (!seesNumber(0, Folk.VILLAGES - 1)) {
                return false;
            }
            if (draft.folk.areNear(a, number)) {
                return tape.fail(3);
            }
            draft.folk.join(a, number);
            tape.next();
            return true;
        }

        private boolean readCoin() {
            if (draft.purse.size >= Purse.MOST) {
                return tape.fail(4);
            }
            tape.next();
            if (!takesNumber(1, 99)) {
                return false;
            }
            if (!seesWho()) {
                return false;
            }
            int c = draft.purse.add(number, found);
            tape.next();
            for (int names = 0; names <= Purse.MOST_RIM && tape.sort == Tape.WORD; names++) {
                if (!seesWho()) {
                    return false;
                }
                if (names >= draft.purse.rimSize) {
                    return tape.fail(4);
                }
                draft.purse.scratch(c, names, found);
                tape.next();
            }
            return true;
        }

        private boolean readDebt() {
            if (draft.debts >= Valley.MOST_DEBTS) {
                return tape.fail(4);
            }
            tape.next();
            if (!seesWho()) {
                return false;
            }
            int debtor = found;
            tape.next();
            if (!seesWho()) {
                return false;
            }
            if (found == debtor) {
                return tape.fail(3);
            }
            tape.next();
            if (!takesNumber(1, 999)) {
                return false;
            }
            draft.owe(debtor, found, number);
            return true;
        }

        private boolean readStranger() {
            tape.next();
            if (!seesWho()) {
                return false;
            }
            if (draft.folk.isStranger(found)) {
                return tape.fail(3);
            }
            draft.folk.strangers |= 1 << found;
            tape.next();
            return true;
        }

        private boolean readFee() {
            if (feeTold) {
                return tape.fail(3);
            }
            feeTold = true;
            tape.next();
            if (!takesNumber(1, 99)) {
                return false;
            }
            draft.fee = number;
            return true;
        }

        private boolean readLaw() {
            if (lawTold) {
                return tape.fail(3);
            }
            lawTold = true;
            tape.next();
            if (tape.isWord(Word.RUBBED)) {
                draft.law = Valley.RUBBED;
            } else if (tape.isWord(Word.STAYS)) {
                draft.law = Valley.STAYS;
            } else if (tape.isWord(Word.HEIRS)) {
                draft.law = Valley.HEIRS;
            } else {
                return tape.fail(1);
            }
            tape.next();
            return true;
        }

        private boolean seesNumber(int least, int greatest) {
            if (tape.sort != Tape.NUMBER) {
                return tape.fail(1);
            }
            number = tape.number;
            return number >= least && number <= greatest || tape.fail(2);
        }

        private boolean takesNumber(int least, int greatest) {
            boolean good = seesNumber(least, greatest);
            if (good) {
                tape.next();
            }
            return good;
        }

        /** The TOKEN is not passed: what else can be wrong about this WHO is at it as well. */
        private boolean seesWho() {
            if (!tape.isWord(Word.NAME)) {
                return tape.fail(1);
            }
            found = draft.folk.find(tape.code);
            return found != NONE || tape.fail(3);
        }
    }

    /** A SENTENCE as a row of steps, what they are about ahead of what joins them. */
    private static final class Sentence {
        static final int MOST_ONES = 20;
        static final int MOST_DEPTH = 8;
        static final int MOST_STEPS = 2 * MOST_ONES;

        private final Word[] step = new Word[MOST_STEPS];
        private final int[] sign = new int[MOST_STEPS];
        private final int[] about = new int[MOST_STEPS];
        private final long[] pile = new long[MOST_STEPS];
        private int steps;
        private int ones;

        Sentence() {
            for (int i = 0; i < MOST_STEPS; i++) {
                step[i] = Word.NAME;
            }
        }

        void forget() {
            steps = 0;
            ones = 0;
        }

        void copyFrom(Sentence other) {
            for (int i = 0; i < other.steps && i < MOST_STEPS; i++) {
                step[i] = other.step[i];
                sign[i] = other.sign[i];
                about[i] = other.about[i];
            }
            steps = other.steps;
            ones = other.ones;
        }

        boolean read(Tape tape, Folk folk) {
            forget();
            if (!readAny(tape, folk, 1)) {
                return false;
            }
            return tape.sort == Tape.END || tape.fail(1);
        }

        private boolean readAny(Tape tape, Folk folk, int depth) {
            if (!readAll(tape, folk, depth)) {
                return false;
            }
            for (int i = 0; i < SENTENCE_BYTES && tape.isWord(Word.OR); i++) {
                tape.next();
                if (!readAll(tape, folk, depth)) {
                    return false;
                }
                put(Word.OR, 0, 0);
            }
            return true;
        }

        private boolean readAll(Tape tape, Folk folk, int depth) {
            if (!readOne(tape, folk, depth)) {
                return false;
            }
            for (int i = 0; i < SENTENCE_BYTES && tape.isWord(Word.AND); i++) {
                tape.next();
                if (!readOne(tape, folk, depth)) {
                    return false;
                }
                put(Word.AND, 0, 0);
            }
            return true;
        }

        private boolean readOne(Tape tape, Folk folk, int depth) {
            if (!startsOne(tape)) {
                return tape.fail(1);
            }
            if (ones >= MOST_ONES || depth > MOST_DEPTH) {
                return tape.fail(4);
            }
            ones++;
            if (tape.sort == '(') {
                return readBracket(tape, folk, depth);
            }
            Word word = tape.word;
            tape.next();
            switch (word) {
                case NOT:
                    return readNot(tape, folk, depth);
                case HELD:
                case BEARS:
                case GOES:
                    return readOfWho(tape, folk, word);
                case VALUE:
                case NAMES:
                case PLACE:
                    return readOfNumber(tape, word);
                default:
                    put(word, 0, 0);
                    return true;
            }
        }

        private static boolean startsOne(Tape tape) {
            if (tape.sort != Tape.WORD) {
                return tape.sort == '(';
            }
            switch (tape.word) {
                case NOT:
                case HELD:
                case BEARS:
                case GOES:
                case STUCK:
                case FORGED:
                case VALUE:
                case NAMES:
                case PLACE:
                    return true;
                default:
                    return false;
            }
        }

        private boolean readNot(Tape tape, Folk folk, int depth) {
            if (!readOne(tape, folk, depth + 1)) {
                return false;
            }
            put(Word.NOT, 0, 0);
            return true;
        }

        private boolean readBracket(Tape tape, Folk folk, int depth) {
            tape.next();
            if (!readAny(tape, folk, depth + 1)) {
                return false;
            }
            if (tape.sort != ')') {
                return tape.fail(1);
            }
            tape.next();
            return true;
        }

        private boolean readOfWho(Tape tape, Folk folk, Word word) {
            if (!tape.isWord(Word.NAME)) {
                return tape.fail(1);
            }
            int w = folk.find(tape.code);
            if (w == NONE) {
                return tape.fail(3);
            }
            put(word, 0, w);
            tape.next();
            return true;
        }

        private boolean readOfNumber(Tape tape, Word word) {
            int mark = tape.sort;
            if (mark != '<' && mark != '=' && mark != '>') {
                return tape.fail(1);
            }
            tape.next();
            if (tape.sort != Tape.NUMBER) {
                return tape.fail(1);
            }
            put(word, mark, tape.number);
            tape.next();
            return true;
        }

        private void put(Word word, int mark, int what) {
            if (steps < MOST_STEPS) {
                step[steps] = word;
                sign[steps] = mark;
                about[steps] = what;
                steps++;
            }
        }

        long coinsSaid(Valley valley) {
            int height = 0;
            for (int i = 0; i < steps && i < MOST_STEPS; i++) {
                if (step[i] == Word.NOT) {
                    if (height >= 1) {
                        pile[height - 1] = ~pile[height - 1];
                    }
                } else if (step[i] == Word.AND || step[i] == Word.OR) {
                    if (height >= 2) {
                        height--;
                        join(step[i] == Word.AND, height);
                    }
                } else if (height < MOST_STEPS) {
                    pile[height] = coinsOfStep(valley, i);
                    height++;
                }
            }
            return height >= 1 ? pile[0] & (1L << valley.purse.size) - 1L : 0L;
        }

        private void join(boolean both, int top) {
            if (top >= 1 && top < MOST_STEPS) {
                long a = pile[top - 1];
                long b = pile[top];
                pile[top - 1] = both ? a & b : a | b;
            }
        }

        private long coinsOfStep(Valley valley, int i) {
            long coins = 0L;
            for (int c = 0; c < valley.purse.size; c++) {
                if (isTrue(valley, i, c)) {
                    coins |= 1L << c;
                }
            }
            return coins;
        }

        private boolean isTrue(Valley valley, int i, int c) {
            Purse purse = valley.purse;
            switch (step[i]) {
                case HELD:
                    return purse.owner[c] == about[i];
                case BEARS:
                    return purse.bears(c, about[i]);
                case GOES:
                    return (valley.goers(c) >>> about[i] & 1) != 0;
                case STUCK:
                    return valley.goers(c) == 0;
                case FORGED:
                    return valley.forgery(c) != 0;
                case VALUE:
                    return compares(purse.value[c], i);
                case NAMES:
                    return compares(purse.names(c), i);
                case PLACE:
                    return compares(valley.folk.villageOf(purse.owner[c]), i);
                default:
                    return false;
            }
        }

        private boolean compares(int what, int i) {
            if (sign[i] == '<') {
                return what < about[i];
            }
            return sign[i] == '=' ? what == about[i] : what > about[i];
        }
    }

    /** The people, their HOUSES and VILLAGES. */
    private static final class Folk {
        static final int MOST = 24;
        static final int VILLAGES = 4;

        private int size;
        private int dead;
        private int strangers;
        private final int[] village = new int[MOST];
        private final int[] house = new int[MOST];
        private final int[] earned = new int[MOST];
        private final long[] name = new long[MOST];
        private final int[] nearTo = new int[VILLAGES];
        /** Of each VILLAGE those not DEAD in what is NEAR: searches ask for them at every go. */
        private final int[] reach = new int[VILLAGES];

        Folk() {
            for (int v = 0; v < VILLAGES; v++) {
                nearTo[v] = 1 << v;
            }
        }

        void empty() {
            size = 0;
            dead = 0;
            strangers = 0;
            for (int v = 0; v < VILLAGES; v++) {
                nearTo[v] = 1 << v;
            }
            refresh();
        }

        void copyFrom(Folk other) {
            size = other.size;
            dead = other.dead;
            strangers = other.strangers;
            for (int w = 0; w < MOST; w++) {
                village[w] = other.village[w];
                house[w] = other.house[w];
                earned[w] = other.earned[w];
                name[w] = other.name[w];
            }
            for (int v = 0; v < VILLAGES; v++) {
                nearTo[v] = other.nearTo[v];
                reach[v] = other.reach[v];
            }
        }

        private void refresh() {
            for (int v = 0; v < VILLAGES; v++) {
                int living = 0;
                for (int w = 0; w < size; w++) {
                    if (areNear(v, village[w]) && !isDead(w)) {
                        living |= 1 << w;
                    }
                }
                reach[v] = living;
            }
        }

        boolean has(int w) {
            return w >= 0 && w < size;
        }

        static boolean isVillage(int v) {
            return v >= 0 && v < VILLAGES;
        }

        boolean isDead(int w) {
            return (dead >>> w & 1) != 0;
        }

        boolean isStranger(int w) {
            return (strangers >>> w & 1) != 0;
        }

        /** Neither DEAD nor wed: a HOUSE stays as somebody of it is DEAD. */
        boolean isFree(int w) {
            return has(w) && !isDead(w) && house[w] == 1 << w;
        }

        boolean areNear(int a, int b) {
            return isVillage(a) && isVillage(b) && (nearTo[a] >>> b & 1) != 0;
        }

        void join(int a, int b) {
            if (isVillage(a) && isVillage(b)) {
                nearTo[a] |= 1 << b;
                nearTo[b] |= 1 << a;
                refresh();
            }
        }

        /** Whether roads, one behind another, lead from a WHO'S VILLAGE to another one's. */
        boolean roadsLead(int a, int b) {
            int found = has(a) ? 1 << village[a] : 0;
            for (int round = 1; round < VILLAGES; round++) {
                for (int v = 0; v < VILLAGES; v++) {
                    if ((found >>> v & 1) != 0) {
                        found |= nearTo[v];
                    }
                }
            }
            return has(b) && (found >>> village[b] & 1) != 0;
        }

        int roads() {
            int ends = 0;
            for (int v = 0; v < VILLAGES; v++) {
                ends += Integer.bitCount(nearTo[v]) - 1;
            }
            return ends >> 1;
        }

        int add(long code, int v) {
            if (size >= MOST) {
                return NONE;
            }
            int w = size;
            size++;
            name[w] = code;
            village[w] = v;
            house[w] = 1 << w;
            earned[w] = 0;
            refresh();
            return w;
        }

        void settleIn(int w, int v) {
            if (has(w)) {
                village[w] = v;
                refresh();
            }
        }

        int find(long code) {
            for (int w = 0; w < size; w++) {
                if (name[w] == code) {
                    return w;
                }
            }
            return NONE;
        }

        int villageOf(int w) {
            return has(w) ? village[w] : NONE;
        }

        void earn(int w, int sum) {
            if (has(w)) {
                earned[w] += sum;
            }
        }

        int houseOf(int w) {
            return has(w) ? house[w] : 0;
        }

        void marry(int a, int b) {
            if (has(a) && has(b)) {
                house[a] |= 1 << b;
                house[b] |= 1 << a;
            }
        }

        void die(int w) {
            dead |= 1 << w;
            refresh();
        }

        private int housesOn(int rim) {
            int houses = 0;
            for (int left = rim; left != 0; left >>>= Purse.NAME_BITS) {
                int w = (left & Purse.NAME_MASK) - 1;
                if (w >= 0 && w < size) {
                    houses |= house[w];
                }
            }
            return houses;
        }

        /** To whom a COIN of an owner with a rim GOES, as bits. */
        int goers(int owner, int rim) {
            if (!has(owner)) {
                return 0;
            }
            int v = village[owner];
            return isVillage(v) ? reach[v] & ~(house[owner] | housesOn(rim)) : 0;
        }

        int whyNot(int owner, int rim, int w) {
            if (isDead(w)) {
                return 1;
            }
            if ((houseOf(owner) >>> w & 1) != 0) {
                return 2;
            }
            if ((housesOn(rim) >>> w & 1) != 0) {
                return 3;
            }
            return (goers(owner, rim) >>> w & 1) != 0 ? 0 : 4;
        }
    }

    /** The COINS: a rim is held as five bits a name (its number and 1), the latest lowest. */
    private static final class Purse {
        static final int MOST = 40;
        static final int MOST_RIM = 3;
        static final int NAME_BITS = 5;
        static final int NAME_MASK = 31;

        private int size;
        private int rimSize = MOST_RIM;
        private final int[] value = new int[MOST];
        private final int[] owner = new int[MOST];
        private final int[] rim = new int[MOST];

        void empty() {
            size = 0;
            rimSize = MOST_RIM;
        }

        void copyFrom(Purse other) {
            size = other.size;
            rimSize = other.rimSize;
            for (int c = 0; c < MOST; c++) {
                value[c] = other.value[c];
                owner[c] = other.owner[c];
                rim[c] = other.rim[c];
            }
        }

        int add(int worth, int w) {
            if (size >= MOST) {
                return NONE;
            }
            int c = size;
            size++;
            value[c] = worth;
            owner[c] = w;
            rim[c] = 0;
            return c;
        }

        boolean has(int c) {
            return c >= 0 && c < size;
        }

        void scratch(int c, int i, int w) {
            if (has(c)) {
                rim[c] |= (w + 1) << NAME_BITS * i;
            }
        }

        static int nameOn(int rim, int i) {
            return (rim >>> NAME_BITS * i & NAME_MASK) - 1;
        }

        int nameAt(int c, int i) {
            return has(c) && i >= 0 && i < MOST_RIM ? nameOn(rim[c], i) : NONE;
        }

        int names(int c) {
            int names = 0;
            for (int i = 0; i < MOST_RIM; i++) {
                if (nameAt(c, i) != NONE) {
                    names++;
                }
            }
            return names;
        }

        boolean bears(int c, int w) {
            for (int i = 0; i < MOST_RIM; i++) {
                if (nameAt(c, i) == w) {
                    return true;
                }
            }
            return false;
        }

        /** The rim with its owner's name on it, as the COIN has gone. */
        int rimAfter(int from, int old) {
            return (old << NAME_BITS | from + 1) & (1 << NAME_BITS * rimSize) - 1;
        }

        void move(int c, int w) {
            if (has(c)) {
                rim[c] = rimAfter(owner[c], rim[c]);
                owner[c] = w;
            }
        }

        void moveAll(long coins, int w) {
            for (int c = 0; c < size; c++) {
                if ((coins >>> c & 1L) != 0L) {
                    move(c, w);
                }
            }
        }

        void shorten(int r) {
            rimSize = r;
            for (int c = 0; c < size; c++) {
                rim[c] &= (1 << NAME_BITS * r) - 1;
            }
        }

        long coinsOf(int w) {
            long coins = 0L;
            for (int c = 0; c < size; c++) {
                if (owner[c] == w) {
                    coins |= 1L << c;
                }
            }
            return coins;
        }

        long goingTo(Folk folk, int a, int b) {
            long coins = 0L;
            for (int c = 0; c < size; c++) {
                if (owner[c] == a && (folk.goers(a, rim[c]) >>> b & 1) != 0) {
                    coins |= 1L << c;
                }
            }
            return coins;
        }

        int worth(long coins) {
            int sum = 0;
            for (int c = 0; c < size; c++) {
                if ((coins >>> c & 1L) != 0L) {
                    sum += value[c];
                }
            }
            return sum;
        }

        void inherit(int w, int heir) {
            for (int c = 0; c < size; c++) {
                if (owner[c] == w) {
                    owner[c] = heir;
                }
            }
        }

        /** Puts a name on all rims in the place of another one; NONE rubs it off. */
        void rename(int w, int other) {
            for (int c = 0; c < size; c++) {
                int made = 0;
                int names = 0;
                for (int i = 0; i < MOST_RIM; i++) {
                    int name = nameOn(rim[c], i) == w ? other : nameOn(rim[c], i);
                    if (name != NONE) {
                        made |= (name + 1) << NAME_BITS * names;
                        names++;
                    }
                }
                rim[c] = made;
            }
        }
    }

    /** Everything that an image keeps. */
    private static final class Valley {
        static final int MOST_DEBTS = 12;
        static final int RUBBED = 0;
        static final int STAYS = 1;
        static final int HEIRS = 2;
        static final int FEE = 8;

        private final Folk folk = new Folk();
        private final Purse purse = new Purse();
        private final Sentence sentence = new Sentence();
        private final int[] debtor = new int[MOST_DEBTS];
        private final int[] creditor = new int[MOST_DEBTS];
        private final int[] owed = new int[MOST_DEBTS];
        private int debts;
        private int cleared;
        private int fee = FEE;
        private int law = STAYS;

        void empty() {
            folk.empty();
            purse.empty();
            sentence.forget();
            debts = 0;
            cleared = 0;
            fee = FEE;
            law = STAYS;
        }

        void copyFrom(Valley other) {
            folk.copyFrom(other.folk);
            purse.copyFrom(other.purse);
            sentence.copyFrom(other.sentence);
            for (int k = 0; k < MOST_DEBTS; k++) {
                debtor[k] = other.debtor[k];
                creditor[k] = other.creditor[k];
                owed[k] = other.owed[k];
            }
            debts = other.debts;
            cleared = other.cleared;
            fee = other.fee;
            law = other.law;
        }

        void owe(int from, int to, int sum) {
            if (debts < MOST_DEBTS) {
                debtor[debts] = from;
                creditor[debts] = to;
                owed[debts] = sum;
                debts++;
            }
        }

        boolean isCleared(int k) {
            return (cleared >>> k & 1) != 0;
        }

        int goers(int c) {
            return purse.has(c) ? folk.goers(purse.owner[c], purse.rim[c]) : 0;
        }

        int whyNot(int c, int w) {
            return purse.has(c) ? folk.whyNot(purse.owner[c], purse.rim[c], w) : NONE;
        }

        int forgery(int c) {
            int bits = 0;
            int before = purse.owner[c];
            for (int i = 0; i < Purse.MOST_RIM; i++) {
                int name = purse.nameAt(c, i);
                if (name != NONE) {
                    bits |= standsTwice(c, i, name) ? 1 : 0;
                    bits |= name == purse.owner[c] ? 2 : 0;
                    bits |= areNeighbours(before, name) ? 0 : 4;
                    before = name;
                }
            }
            return bits;
        }

        private boolean standsTwice(int c, int i, int name) {
            for (int later = i + 1; later < Purse.MOST_RIM; later++) {
                if (purse.nameAt(c, later) == name) {
                    return true;
                }
            }
            return false;
        }

        private boolean areNeighbours(int a, int b) {
            return folk.areNear(folk.villageOf(a), folk.villageOf(b));
        }

        long stuckCoins() {
            long coins = 0L;
            for (int c = 0; c < purse.size; c++) {
                if (goers(c) == 0) {
                    coins |= 1L << c;
                }
            }
            return coins;
        }

        /** A child has a new name and a HOUSE of his own: his VILLAGE alone can keep a COIN from him. */
        int freedIn(int village) {
            long coins = stuckCoins();
            int freed = 0;
            for (int c = 0; c < purse.size; c++) {
                if ((coins >>> c & 1L) != 0L && folk.areNear(village, folk.villageOf(purse.owner[c]))) {
                    freed++;
                }
            }
            return freed;
        }

        int whyNoChange(int c, int d) {
            if (!folk.isStranger(purse.owner[d])) {
                return 1;
            }
            if (whyNot(c, purse.owner[d]) != 0) {
                return 2;
            }
            if (whyNot(d, purse.owner[c]) != 0) {
                return 3;
            }
            return purse.value[d] > purse.value[c] - feeFor(purse.value[c]) ? 4 : 0;
        }

        private int feeFor(int value) {
            return fee > 0 ? (value + fee - 1) / fee : value;
        }

        void swap(int c, int d) {
            int customer = purse.owner[c];
            int stranger = purse.owner[d];
            folk.earn(stranger, purse.value[c] - purse.value[d]);
            purse.move(c, stranger);
            purse.move(d, customer);
        }

        /** Whether COIN d, had for COIN c by a CHANGE, would GO to a WHO. */
        boolean goesOnAfterChange(int c, int d, int w) {
            int rim = purse.rimAfter(purse.owner[d], purse.rim[d]);
            return folk.whyNot(purse.owner[c], rim, w) == 0;
        }

        int bury(int w, int heir) {
            int inherited = Long.bitCount(purse.coinsOf(w));
            purse.inherit(w, heir);
            folk.die(w);
            if (law == RUBBED) {
                purse.rename(w, NONE);
            } else if (law == HEIRS) {
                purse.rename(w, heir);
            }
            return inherited;
        }
    }

    /**
     * Finds COINS that come to a sum. A choice is weighed by one long: above, how few COINS it has; below, its COINS,
     * the first highest. So the greatest weight is the fewest and, of like ones, the first.
     */
    private static final class Payment {
        static final int DAY_SUMS = MOST_DAY_SUM + 1;
        static final long NO_COINS = 63L << Purse.MOST;

        private final long[] weights = new long[MOST_SUM + 1];
        private final long[] dayWeights = new long[DAY_SUMS * DAY_SUMS];
        private long coins;

        int choose(Folk folk, Purse purse, int a, int b, int sum) {
            if (sum < 1 || sum > MOST_SUM) {
                return NONE;
            }
            long going = purse.goingTo(folk, a, b);
            startAt(weights, sum);
            for (int c = 0; c < purse.size; c++) {
                if ((going >>> c & 1L) != 0L) {
                    addCoin(c, purse.value[c], sum);
                }
            }
            return take(weights[sum]);
        }

        /** No more is cleared than is used: orders() comes here some hundred times. */
        private static void startAt(long[] row, int last) {
            for (int i = 1; i <= last && i < row.length; i++) {
                row[i] = 0L;
            }
            row[0] = NO_COINS;
        }

        private void addCoin(int c, int value, int sum) {
            for (int s = sum; s >= value && s >= 0; s--) {
                weights[s] = Math.max(weights[s], heavier(weights[s - value], c));
            }
        }

        private static long heavier(long weight, int c) {
            return weight == 0L ? 0L : weight - (1L << Purse.MOST) + (1L << Purse.MOST - 1 - c);
        }

        private int take(long weight) {
            if (weight == 0L) {
                return NONE;
            }
            coins = 0L;
            for (int c = 0; c < Purse.MOST; c++) {
                if ((weight >>> Purse.MOST - 1 - c & 1L) != 0L) {
                    coins |= 1L << c;
                }
            }
            return Long.bitCount(coins);
        }

        int chooseForTwoDays(Purse purse, long today, int n, long tomorrow, int m) {
            if (n < 1 || n > MOST_DAY_SUM || m < 1 || m > MOST_DAY_SUM) {
                return NONE;
            }
            startAt(dayWeights, n * DAY_SUMS + m);
            for (int c = 0; c < purse.size; c++) {
                boolean first = (today >>> c & 1L) != 0L;
                boolean second = (tomorrow >>> c & 1L) != 0L;
                if (first || second) {
                    addDayCoin(c, first ? purse.value[c] : DAY_SUMS, n, second ? purse.value[c] : DAY_SUMS, m);
                }
            }
            return take(dayWeights[n * DAY_SUMS + m]);
        }

        /** A COIN that does not GO on a day has there a VALUE above all sums. */
        private void addDayCoin(int c, int todays, int n, int tomorrows, int m) {
            for (int s = n; s >= 0; s--) {
                for (int t = m; t >= 0; t--) {
                    int at = s * DAY_SUMS + t;
                    long weight = dayWeights[at];
                    if (s >= todays) {
                        weight = Math.max(weight, heavier(dayWeights[at - todays * DAY_SUMS], c));
                    }
                    if (t >= tomorrows) {
                        weight = Math.max(weight, dayWeights[at - tomorrows]);
                    }
                    dayWeights[at] = weight;
                }
            }
        }

        int payDebt(Valley valley, Purse purse, int k) {
            if (k < 0 || k >= valley.debts) {
                return NONE;
            }
            int paid = choose(valley.folk, purse, valley.debtor[k], valley.creditor[k], valley.owed[k]);
            if (paid >= 0) {
                purse.moveAll(coins, valley.creditor[k]);
            }
            return paid;
        }
    }

    /** The ways of one COIN. A state is its owner (five bits) and above it its rim. */
    private static final class Journey {
        static final int MOST_WAY = 5;
        static final int STATE_BITS = Purse.NAME_BITS * (Purse.MOST_RIM + 1);
        static final int STATE_MASK = (1 << STATE_BITS) - 1;
        /** Above what can be come to: 24 * 23 * 22 * 21 with four other names, 23 * 22 * 21 and less ahead of it. */
        static final int ROOM = 266240;
        /** 64 numbers of states a word; a rim has 25 * 25 * 25 (an empty place counts, too). */
        static final int WORDS = Folk.MOST * 15625 / 64 + 1;
        static final int LONGEST = 1024;

        private final long[] seen = new long[WORDS];
        private final long[] open = new long[WORDS];
        /** States, and above each the place in the queue of that from which it was come to. */
        private final long[] queue = new long[ROOM];
        private int people;
        private final int[] row = new int[LONGEST];
        private int rowSize;
        private final int[] allowed = new int[MOST_WAY];
        private final int[] hadBits = new int[MOST_WAY];
        private int hadSize;

        private static int stateOf(int owner, int rim) {
            return (owner | rim << Purse.NAME_BITS) & STATE_MASK;
        }

        private static int ownerOf(int state) {
            return state & Purse.NAME_MASK;
        }

        private static int rimOf(int state) {
            return state >>> Purse.NAME_BITS;
        }

        private static int stateNow(Purse purse, int c) {
            return purse.has(c) ? stateOf(purse.owner[c], purse.rim[c]) : 0;
        }

        private static int goers(Valley valley, int state) {
            return valley.folk.goers(ownerOf(state), rimOf(state));
        }

        /** As a state is when the COIN has gone on to a WHO; to another one it differs by his number alone. */
        private static int after(Valley valley, int state, int w) {
            return stateOf(w, valley.purse.rimAfter(ownerOf(state), rimOf(state)));
        }

        /** States are numbered closely, so that little need be cleared where there are few people. */
        private int codeOf(int state) {
            int code = 0;
            for (int shift = STATE_BITS - Purse.NAME_BITS; shift > 0; shift -= Purse.NAME_BITS) {
                code = code * (people + 1) + (state >>> shift & Purse.NAME_MASK);
            }
            return code * people + ownerOf(state);
        }

        private void begin(Valley valley) {
            people = valley.folk.size;
            int words = people * (people + 1) * (people + 1) * (people + 1) / 64 + 1;
            for (int i = 0; i < words && i < WORDS; i++) {
                seen[i] = 0L;
                open[i] = 0L;
            }
        }

        private static boolean isIn(long[] set, int code) {
            int word = code >> 6;
            return word >= 0 && word < set.length && (set[word] >>> (code & 63) & 1L) != 0L;
        }

        private static void put(long[] set, int code, boolean in) {
            int word = code >> 6;
            if (word >= 0 && word < set.length) {
                long bit = 1L << (code & 63);
                set[word] = in ? set[word] | bit : set[word] & ~bit;
            }
        }

        int goTo(Valley valley, int c, int w) {
            int start = stateNow(valley.purse, c);
            if (ownerOf(start) == w) {
                rowSize = 0;
                return 0;
            }
            if (valley.folk.isDead(w) || !valley.folk.roadsLead(ownerOf(start), w)) {
                return NONE;
            }
            int last = spread(valley, start, w, NONE);
            if (last == NONE) {
                return NONE;
            }
            rowSize = steps(last) + 1;
            writeRow(last, w);
            return rowSize;
        }

        int goRound(Valley valley, int c) {
            if (!canHaveCome(valley, c)) {
                return NONE;
            }
            int start = stateNow(valley.purse, c);
            int last = spread(valley, start, ownerOf(start), start);
            return last == NONE ? NONE : steps(last) + 1;
        }

        /** As it is now it comes again only if its rim is full and each on it could have it from the next one. */
        private static boolean canHaveCome(Valley valley, int c) {
            Purse purse = valley.purse;
            if (purse.names(c) < purse.rimSize || valley.forgery(c) != 0) {
                return false;
            }
            int barred = valley.folk.dead | valley.folk.houseOf(purse.owner[c]);
            for (int i = 0; i < purse.rimSize; i++) {
                int name = purse.nameAt(c, i);
                if ((barred >>> name & 1) != 0) {
                    return false;
                }
                barred |= valley.folk.houseOf(name);
            }
            return true;
        }

        /**
         * The place in the queue of the first state from which the COIN can go to a WHO (so as to be in the state
         * wanted, if it is not NONE). States stand in the queue by their rows, the lesser WHO ahead, so the first
         * that is found has the first row.
         */
        private int spread(Valley valley, int start, int w, int wanted) {
            begin(valley);
            queue[0] = start;
            put(seen, codeOf(start), true);
            int tail = 1;
            for (int head = 0; head < tail && head < ROOM; head++) {
                int state = (int) queue[head] & STATE_MASK;
                int whos = goers(valley, state);
                int next = after(valley, state, 0);
                if ((whos >>> w & 1) != 0 && (wanted == NONE || (next | w) == wanted)) {
                    return head;
                }
                int code = codeOf(next);
                for (int left = whos; left != 0; left &= left - 1) {
                    int hand = lowest(left);
                    if (tail < ROOM && !isIn(seen, code + hand)) {
                        put(seen, code + hand, true);
                        queue[tail] = (long) head << STATE_BITS | next | hand;
                        tail++;
                    }
                }
            }
            return NONE;
        }

        private int before(int place) {
            return place > 0 && place < ROOM ? (int) (queue[place] >>> STATE_BITS) : 0;
        }

        private int steps(int place) {
            int steps = 0;
            for (int at = place; at > 0 && steps < ROOM; at = before(at)) {
                steps++;
            }
            return steps;
        }

        private void writeRow(int last, int w) {
            int who = w;
            int at = last;
            for (int i = rowSize - 1; i >= 0; i--) {
                if (i < LONGEST) {
                    row[i] = who;
                }
                who = at >= 0 && at < ROOM ? ownerOf((int) queue[at]) : NONE;
                at = before(at);
            }
        }

        int handOf(int i) {
            return i >= 0 && i < rowSize && i < LONGEST ? row[i] : NONE;
        }

        /** Goes as deep as it can: a state that is come to again from itself is a round without an end. */
        boolean goesForEver(Valley valley, int c) {
            begin(valley);
            int start = stateNow(valley.purse, c);
            enter(start, 0);
            int depth = 1;
            int from = 0;
            for (int step = 0; step < 4 * ROOM && depth > 0 && depth < ROOM; step++) {
                int state = (int) queue[depth - 1] & STATE_MASK;
                int w = nextHand(valley, state, from);
                if (w == NONE) {
                    put(open, codeOf(state), false);
                    from = ownerOf(state) + 1;
                    depth--;
                } else {
                    int next = after(valley, state, w);
                    if (isIn(open, codeOf(next))) {
                        return true;
                    }
                    enter(next, depth);
                    from = 0;
                    depth++;
                }
            }
            return false;
        }

        private void enter(int state, int depth) {
            if (depth >= 0 && depth < ROOM) {
                put(seen, codeOf(state), true);
                put(open, codeOf(state), true);
                queue[depth] = state;
            }
        }

        /** The least WHO not below a number, by whom a state is come to that is new or still open. */
        private int nextHand(Valley valley, int state, int from) {
            int code = codeOf(after(valley, state, 0));
            for (int left = goers(valley, state) & -1 << from; left != 0; left &= left - 1) {
                int hand = lowest(left);
                if (!isIn(seen, code + hand) || isIn(open, code + hand)) {
                    return hand;
                }
            }
            return NONE;
        }

        int countWays(Valley valley, int c, int first, int n) {
            Purse purse = valley.purse;
            hadSize = n;
            for (int i = 0; i < n && i < MOST_WAY; i++) {
                int name = i == n - 1 ? purse.owner[c] : purse.nameAt(c, n - 2 - i);
                allowed[i] = name == NONE ? -1 : 1 << name;
                hadBits[i] = 0;
            }
            if (purse.names(c) != Math.min(purse.rimSize, n)) {
                return 0;
            }
            return walk(valley, stateOf(first, 0), 0, stateNow(purse, c));
        }

        private int walk(Valley valley, int state, int gone, int wanted) {
            if (gone >= hadSize || gone >= MOST_WAY) {
                return state == wanted ? 1 : 0;
            }
            int sum = 0;
            for (int left = goers(valley, state) & allowed[gone]; left != 0; left &= left - 1) {
                int w = lowest(left);
                int ways = walkBy(valley, state, w, gone, wanted);
                if (ways > 0) {
                    hadBits[gone] |= 1 << w;
                    sum += ways;
                }
            }
            return sum;
        }

        private int walkBy(Valley valley, int state, int w, int gone, int wanted) {
            return walk(valley, after(valley, state, w), gone + 1, wanted);
        }

        int hadBy(int i) {
            return i >= 0 && i < hadSize && i < MOST_WAY ? hadBits[i] : NONE;
        }
    }

    /** Orders of some DEBTS, tried all, each place of an order on a purse of its own. */
    private static final class Orderings {
        static final int MOST = 5;

        private final Purse[] purses = new Purse[MOST + 1];
        private final int[] told = new int[MOST];
        private final int[] tried = new int[MOST];
        private final int[] found = new int[MOST];
        private int size;
        private int foundSize;
        private int most;

        Orderings() {
            for (int i = 0; i <= MOST; i++) {
                purses[i] = new Purse();
            }
        }

        boolean take(Tape tape, Valley valley) {
            if (tape.length < 1 || tape.length > MOST) {
                return false;
            }
            int seen = 0;
            for (int i = 0; i < tape.length && i < MOST; i++) {
                int k = tape.signAt(i);
                if (k >= valley.debts || valley.isCleared(k) || (seen >>> k & 1) != 0) {
                    return false;
                }
                seen |= 1 << k;
                told[i] = k;
            }
            size = tape.length;
            return true;
        }

        int best(Valley valley, Payment payment) {
            most = NONE;
            foundSize = size;
            purses[0].copyFrom(valley.purse);
            place(valley, payment, 0, 0, 0);
            return most;
        }

        private void place(Valley valley, Payment payment, int depth, int used, int paid) {
            if (depth >= size || depth >= MOST) {
                keepBest(paid);
                return;
            }
            for (int i = 0; i < size && i < MOST; i++) {
                // An order that can pay no more than the one found does not come ahead of it.
                if ((used >>> i & 1) == 0 && paid + size - depth > most) {
                    tried[depth] = told[i];
                    placeNext(valley, payment, depth, used | 1 << i, paid);
                }
            }
        }

        private void placeNext(Valley valley, Payment payment, int depth, int used, int paid) {
            Purse purse = purses[depth + 1];
            purse.copyFrom(purses[depth]);
            int coins = payment.payDebt(valley, purse, tried[depth]);
            place(valley, payment, depth + 1, used, coins >= 0 ? paid + 1 : paid);
        }

        private void keepBest(int paid) {
            if (paid > most) {
                most = paid;
                for (int i = 0; i < MOST; i++) {
                    found[i] = tried[i];
                }
            }
        }

        int debtAt(int i) {
            return i >= 0 && i < foundSize && i < MOST ? found[i] : NONE;
        }
    }

    /** What is drawn by a seed. */
    private static final class Lots {
        private int x;
        private int went;
        private int refused;
        private int births;
        private int thefts;

        void begin(int seed) {
            x = seed;
            went = 0;
            refused = 0;
            births = 0;
            thefts = 0;
        }

        private int draw(int n) {
            x = x * 1103515245 + 12345;
            return n > 0 ? (x >>> 8) % n : 0;
        }

        void passDay(Valley valley) {
            int payer = drawPayment(valley);
            Folk folk = valley.folk;
            if (draw(16) == 0 && folk.size < Folk.MOST && folk.has(payer)) {
                folk.add(0L, folk.village[payer]);
                births++;
            }
            if (draw(16) == 0) {
                drawTheft(valley);
            }
        }

        /** Draws who pays, whom and with what; he who pays is answered. */
        int drawPayment(Valley valley) {
            int payer = draw(valley.folk.size);
            int payee = draw(valley.folk.size);
            long coins = valley.purse.coinsOf(payer);
            if (coins != 0L) {
                int c = countOrOne(coins, draw(Long.bitCount(coins)));
                if (valley.whyNot(c, payee) == 0) {
                    valley.purse.move(c, payee);
                    went++;
                } else {
                    refused++;
                }
            }
            return payer;
        }

        private void drawTheft(Valley valley) {
            int thief = draw(valley.folk.size);
            int c = draw(valley.purse.size);
            if (valley.purse.has(c) && !valley.folk.isDead(thief) && valley.purse.owner[c] != thief) {
                valley.purse.owner[c] = thief;
                thefts++;
            }
        }
    }
}
