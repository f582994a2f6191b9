/** A parish in which everyone's second name is a promise. The document DOC.md tells what each call answers. */
public final class PromiseNames {
    public static final int NONE = -1, UNKNOWN = -2, OUTSIDE = -3, NOT = -4, FULL = -5, NULL = -11, INDEX = -12, VOID = -13, LINE = -14, EMPTY = -15, CAST = -16, SIZE = -17;

    private static final int MOST_PEOPLE = 5, MOST_PROMISES = 10, THE_CAT = 5;
    private static final int LONGEST_SPAN = 60, LAST_YEAR = 999, SLOTS = 2;

    private final Told told = new Told();
    private final Told draft = new Told();
    private final Reader reader = new Reader();
    private final State now = new State(told);
    private final Past past = new Past(told);
    private final State[] kept = new State[SLOTS];
    private final boolean[] isSlotKept = new boolean[SLOTS];
    private final Foretelling foretelling = new Foretelling(told);
    private final Sightings sightings = new Sightings();
    private final Shelf shelf = new Shelf();

    public PromiseNames() {
        for (int k = 0; k < SLOTS; k++) {
            kept[k] = new State(told);
        }
    }

    // ---- what is told

    public int write(int letter) {
        if (!isWithin(letter, 0, 255)) {
            return OUTSIDE;
        }
        return reader.addLetter(letter) ? reader.length : FULL;
    }

    public int erase() {
        int had = reader.length;
        reader.length = 0;
        return had;
    }

    public int fault() {
        draft.copyFrom(told);
        return reader.readInto(draft);
    }

    public int parish() {
        draft.copyFrom(told);
        if (reader.readInto(draft) != NONE) {
            return NOT;
        }
        told.copyFrom(draft);
        reader.length = 0;
        beginAnew();
        return reader.clauses;
    }

    private void beginAnew() {
        now.setAsTold();
        past.size = 0;
        for (int k = 0; k < SLOTS; k++) {
            isSlotKept[k] = false;
        }
        sightings.size = 0;
        shelf.clear();
    }

    public int person(int person, int what) {
        if (!isPerson(person)) {
            return UNKNOWN;
        }
        switch (what) {
            case 0: return told.strength[person];
            case 1: return now.span[person];
            case 2: return told.heir[person];
            case 3: return now.howManyHeldBy(person);
            default: return OUTSIDE;
        }
    }

    public int holds(int person, int k) {
        if (person != NONE && !isPerson(person)) {
            return UNKNOWN;
        }
        if (k < 0) {
            return OUTSIDE;
        }
        return now.heldAt(person == NONE ? THE_CAT : person, k);
    }

    public int promise(int promise, int what) {
        if (!isPromise(promise)) {
            return UNKNOWN;
        }
        switch (what) {
            case 0: return told.kind[promise];
            case 1: return now.work[promise];
            case 2: return now.done[promise];
            case 3: return told.needs[promise];
            case 4: return now.holder[promise];
            case 5: return now.isOpen(promise, now.keptOnes) ? 1 : 0;
            default: return OUTSIDE;
        }
    }

    public int as(int promise, int kind) {
        if (!isPromise(promise)) {
            return UNKNOWN;
        }
        if (!isWithin(kind, 0, 5)) {
            return OUTSIDE;
        }
        if (!Kind.isUnder(told.kind[promise], kind)) {
            return NOT;
        }
        return Kind.does(told.kind[promise], 5);
    }

    // ---- what is done

    public int year(int n) {
        if (!isWithin(n, 1, 12)) {
            return OUTSIDE;
        }
        if (now.year + n > LAST_YEAR) {
            return FULL;
        }
        past.remember(now);
        now.passYears(n);
        return now.year;
    }

    public int give(int promise, int person) {
        if (!isPromise(promise) || person != NONE && !isPerson(person)) {
            return UNKNOWN;
        }
        int to = person == NONE ? THE_CAT : person;
        int held = now.holder[promise];
        if (held == NONE || held == to || to != THE_CAT && now.span[to] == 0) {
            return NOT;
        }
        past.remember(now);
        now.handOver(promise, to);
        return held;
    }

    public int shorten(int promise) {
        if (!isPromise(promise)) {
            return UNKNOWN;
        }
        int off = (now.work[promise] - now.done[promise]) / 2;
        if (now.holder[promise] == NONE || off == 0) {
            return NOT;
        }
        past.remember(now);
        now.work[promise] -= off;
        return now.work[promise];
    }

    public int ahead(int promise) {
        if (!isPromise(promise)) {
            return UNKNOWN;
        }
        if (now.holder[promise] == NONE) {
            return NOT;
        }
        int rank = now.rankOf(promise);
        if (rank == 0) {
            return NOT;
        }
        past.remember(now);
        now.putFirst(promise);
        return rank;
    }

    public int undo() {
        if (past.size == 0) {
            return NOT;
        }
        past.restoreLatest(now);
        return past.size;
    }

    public int keep(int k) {
        if (!isWithin(k, 0, SLOTS - 1)) {
            return UNKNOWN;
        }
        kept[k].copyFrom(now);
        isSlotKept[k] = true;
        return now.year;
    }

    public int back(int k) {
        if (!isWithin(k, 0, SLOTS - 1)) {
            return UNKNOWN;
        }
        if (!isSlotKept[k]) {
            return NOT;
        }
        now.copyFrom(kept[k]);
        past.size = 0;
        return now.year;
    }

    // ---- foretold

    public int behind(int promise, int n, int what) {
        if (!isPromise(promise)) {
            return UNKNOWN;
        }
        if (!isWithin(n, 0, LONGEST_SPAN) || !isWithin(what, 0, 1)) {
            return OUTSIDE;
        }
        State then = foretelling.stateBehind(now, n);
        return what == 0 ? then.done[promise] : then.holder[promise];
    }

    public int keeps(int promise) {
        return isPromise(promise) ? foretelling.yearsUntilKept(now, promise) : UNKNOWN;
    }

    public int just(int person) {
        return isPerson(person) ? foretelling.yearsUntilFree(now, person) : UNKNOWN;
    }

    public int stuck() {
        return now.neverKept();
    }

    public int order(int person, int n, int k) {
        if (!isPerson(person)) {
            return UNKNOWN;
        }
        if (!isWithin(n, 1, 30) || k < NONE) {
            return OUTSIDE;
        }
        if (now.howManyHeldBy(person) > Foretelling.MOST_ORDERED) {
            return NONE;
        }
        foretelling.findBestOrder(now, person, n);
        return foretelling.answerAt(k);
    }

    public int godfathers(int n, int k) {
        if (!isWithin(n, 0, 30) || !isWithin(k, NONE, Foretelling.MOST_GIVEN - 1)) {
            return OUTSIDE;
        }
        foretelling.findBestGodfathers(now, n);
        return foretelling.answerAt(k);
    }

    public int peace() {
        return told.largestPeacefulSet();
    }

    public int idle(int n, int q, int m, int part) {
        if (!isWithin(n, 0, 9) || !isWithin(q, 0, 10) || !isWithin(m, 0, 9) || !isWithin(part, 0, 1)) {
            return OUTSIDE;
        }
        return Odds.partOf(n, q, m, part);
    }

    // ---- what was seen

    public int seen(int s, int n, int d) {
        if (!isWithin(s, 1, 9) || !isWithin(n, 1, 9) || !isWithin(d, 0, 200)) {
            return OUTSIDE;
        }
        return sightings.add(s, n, d) ? sightings.size : FULL;
    }

    public int forget() {
        int had = sightings.size;
        sightings.size = 0;
        return had;
    }

    public int kinds() {
        return sightings.possibleKinds();
    }

    public int attempt() {
        return Sightings.bestStrength(sightings.possibleKinds());
    }

    // ---- registers

    public int register(int register, int n) {
        if (!isRegister(register)) {
            return UNKNOWN;
        }
        if (n > Shelf.MOST_PAGES) {
            return OUTSIDE;
        }
        if (n < 0) {
            return SIZE;
        }
        shelf.registers[register] = new Register(n);
        return n;
    }

    public int page(int register, int p, int n) {
        if (!isRegister(register)) {
            return UNKNOWN;
        }
        if (n > Shelf.MOST_LINES) {
            return OUTSIDE;
        }
        Register one = shelf.registers[register];
        if (one == null) {
            return NULL;
        }
        if (!one.hasPlace(p)) {
            return INDEX;
        }
        if (n < 0) {
            return SIZE;
        }
        one.leaves[p] = new Page(n);
        return n;
    }

    public int bind(int from, int p, int to, int q) {
        if (!isRegister(from) || !isRegister(to)) {
            return UNKNOWN;
        }
        int flaw = shelf.flawOfPlaces(from, p, to, q);
        if (flaw != Shelf.FINE) {
            return flaw;
        }
        shelf.registers[to].leaves[q] = shelf.registers[from].leaves[p];
        return 1;
    }

    public int same(int one, int p, int other, int q) {
        if (!isRegister(one) || !isRegister(other)) {
            return UNKNOWN;
        }
        int flaw = shelf.flawOfPlaces(one, p, other, q);
        if (flaw != Shelf.FINE) {
            return flaw;
        }
        Page first = shelf.registers[one].leaves[p];
        Page second = shelf.registers[other].leaves[q];
        if (first == null || second == null) {
            return VOID;
        }
        return first == second ? 1 : 0;
    }

    public int enter(int register, int p, int i, int what, int v) {
        if (!isRegister(register) || what == 1 && !isPromise(v)) {
            return UNKNOWN;
        }
        if (!isWithin(what, 0, 2) || what == 0 && !isWithin(v, -9999, 9999)) {
            return OUTSIDE;
        }
        int flaw = shelf.flawOfLine(register, p, i);
        if (flaw != Shelf.FINE) {
            return flaw;
        }
        shelf.registers[register].leaves[p].put(i, what, v);
        return 1;
    }

    public int read(int register, int p, int i, int what) {
        if (!isRegister(register)) {
            return UNKNOWN;
        }
        if (!isWithin(what, 0, 1)) {
            return OUTSIDE;
        }
        int flaw = shelf.flawOfLine(register, p, i);
        if (flaw != Shelf.FINE) {
            return flaw;
        }
        Page leaf = shelf.registers[register].leaves[p];
        if (leaf.sort[i] == Page.NOTHING) {
            return EMPTY;
        }
        if (leaf.sort[i] != what) {
            return CAST;
        }
        return what == Page.NUMBER ? leaf.value[i] + 50000 : leaf.value[i];
    }

    public int pages(int register, int what) {
        if (!isRegister(register)) {
            return UNKNOWN;
        }
        if (!isWithin(what, 0, 3)) {
            return OUTSIDE;
        }
        Register one = shelf.registers[register];
        if (one == null) {
            return NULL;
        }
        switch (what) {
            case 0: return one.leaves.length;
            case 1: return one.pagesThere();
            case 2: return one.unlikePages();
            default: return one.filledLines();
        }
    }

    public int drop(int register) {
        if (!isRegister(register)) {
            return UNKNOWN;
        }
        Register one = shelf.registers[register];
        if (one == null) {
            return NULL;
        }
        shelf.registers[register] = null;
        return one.leaves.length;
    }

    public int count(int what) {
        switch (what) {
            case 0: return told.people;
            case 1: return told.promises;
            case 2: return now.year;
            case 3: return now.deadOnes();
            case 4: return now.keptOnes;
            case 5: return now.howManyHeldBy(THE_CAT);
            case 6: return now.allDone();
            case 7: return sightings.size;
            case 8: return shelf.registersThere();
            case 9: return past.size;
            case 10: return reader.length;
            default: return OUTSIDE;
        }
    }

    private boolean isPerson(int person) {
        return isWithin(person, 0, told.people - 1);
    }

    private boolean isPromise(int promise) {
        return isWithin(promise, 0, told.promises - 1);
    }

    private static boolean isRegister(int register) {
        return isWithin(register, 0, Shelf.MOST_REGISTERS - 1);
    }

    private static boolean isWithin(int number, int least, int most) {
        return number >= least && number <= most;
    }

    /** The kinds by their numbers in a promise, and what each of them means. */
    private static final class Kind {
        static final int WILL = 0, PAY = 1, SHORT = 2, SHUN = 3, EVER = 4, HOW_MANY = 5;

        private static final int FORM_PROMISE = 0, FORM_WILL = 1, FORM_SHUN = 4;

        static boolean canBeWorkedAt(int kind) {
            return kind == WILL || kind == PAY || kind == SHORT;
        }

        static int does(int kind, int strength) {
            switch (kind) {
                case WILL: return strength;
                case PAY: return strength / 2 + 1;
                case SHORT: return strength * 2;
                default: return 0;
            }
        }

        static boolean isKeptByDeath(int kind) {
            return kind == SHUN;
        }

        /** Forms are numbered otherwise than kinds: PROMISE, that is over all, comes first. */
        static boolean isUnder(int kind, int form) {
            if (form == FORM_PROMISE || form == kind + 1) {
                return true;
            }
            if (form == FORM_WILL) {
                return kind == PAY || kind == SHORT;
            }
            return form == FORM_SHUN && kind == EVER;
        }
    }

    /** What the texts have told. Years and gifts never change it, so that a later text can begin from it. */
    private static final class Told {
        int people, promises;
        final int[] strength = new int[MOST_PEOPLE];
        final int[] span = new int[MOST_PEOPLE];
        final int[] heir = new int[MOST_PEOPLE];
        final int[] kind = new int[MOST_PROMISES];
        final int[] work = new int[MOST_PROMISES];
        final int[] needs = new int[MOST_PROMISES];
        final int[] holder = new int[MOST_PROMISES];
        final int[] foes = new int[MOST_PROMISES];

        void clear() {
            people = 0;
            promises = 0;
        }

        void copyFrom(Told other) {
            people = other.people;
            promises = other.promises;
            System.arraycopy(other.strength, 0, strength, 0, MOST_PEOPLE);
            System.arraycopy(other.span, 0, span, 0, MOST_PEOPLE);
            System.arraycopy(other.heir, 0, heir, 0, MOST_PEOPLE);
            System.arraycopy(other.kind, 0, kind, 0, MOST_PROMISES);
            System.arraycopy(other.work, 0, work, 0, MOST_PROMISES);
            System.arraycopy(other.needs, 0, needs, 0, MOST_PROMISES);
            System.arraycopy(other.holder, 0, holder, 0, MOST_PROMISES);
            System.arraycopy(other.foes, 0, foes, 0, MOST_PROMISES);
        }

        boolean hasRoomForPerson() {
            return people < MOST_PEOPLE;
        }

        boolean hasRoomForPromise() {
            return promises < MOST_PROMISES;
        }

        void addPerson(int strong, int years, int follower) {
            if (hasRoomForPerson()) {
                strength[people] = strong;
                span[people] = years;
                heir[people] = follower;
                people++;
            }
        }

        void addPromise(int sort, int person, int much, int needed) {
            if (hasRoomForPromise()) {
                kind[promises] = sort;
                holder[promises] = person;
                work[promises] = much;
                needs[promises] = needed;
                foes[promises] = 0;
                promises++;
            }
        }

        void addStrife(int one, int other) {
            foes[one] |= 1 << other;
            foes[other] |= 1 << one;
        }

        /** Sets are tried rising, and only a larger one replaces the best: so the least of the largest is left. */
        int largestPeacefulSet() {
            int best = 0;
            int most = 0;
            for (int set = 1; set < 1 << promises; set++) {
                int size = Integer.bitCount(set);
                if (size > most && isPeaceful(set)) {
                    best = set;
                    most = size;
                }
            }
            return best;
        }

        private boolean isPeaceful(int set) {
            for (int p = 0; p < promises; p++) {
                if ((set >> p & 1) != 0 && (set & foes[p]) != 0) {
                    return false;
                }
            }
            return true;
        }
    }

    /** The text, and how it is read: token by token, each being looked at before it is passed. */
    private static final class Reader {
        private static final int MOST_LETTERS = 200, MOST_CLAUSES = 24, MOST_DIGITS = 2;
        private static final int END = 0, WORD = 1, NUMBER = 2, SIGN = 3;

        private final int[] letters = new int[MOST_LETTERS];
        int length, clauses;
        private int sort, start, end;

        boolean addLetter(int letter) {
            if (length >= MOST_LETTERS) {
                return false;
            }
            letters[length] = letter;
            length++;
            return true;
        }

        /** Does the clauses in a draft that is thrown away if there is a fault. Answers the fault's place, or NONE. */
        int readInto(Told draft) {
            clauses = 0;
            end = 0;
            toNextToken();
            for (int i = 0; i < MOST_CLAUSES; i++) {
                if (!readClause(draft)) {
                    return start;
                }
                clauses++;
                if (sort == END) {
                    return NONE;
                }
                if (!isSign(';') || clauses == MOST_CLAUSES) {
                    return start;
                }
                toNextToken();
            }
            return start;
        }

        private boolean readClause(Told draft) {
            if (isWord("parish")) {
                toNextToken();
                draft.clear();
                return true;
            }
            if (isWord("man")) {
                return readPerson(draft);
            }
            if (isWord("strife")) {
                return readStrife(draft);
            }
            int kind = kindByWord();
            return kind != NONE && readPromise(draft, kind);
        }

        private int kindByWord() {
            if (isWord("will")) {
                return Kind.WILL;
            }
            if (isWord("pay")) {
                return Kind.PAY;
            }
            if (isWord("short")) {
                return Kind.SHORT;
            }
            if (isWord("shun")) {
                return Kind.SHUN;
            }
            return isWord("ever") ? Kind.EVER : NONE;
        }

        private boolean readPerson(Told draft) {
            if (!draft.hasRoomForPerson()) {
                return false;
            }
            toNextToken();
            if (!isNumber(1, 9)) {
                return false;
            }
            int strength = takeNumber();
            if (!isNumber(1, LONGEST_SPAN)) {
                return false;
            }
            int span = takeNumber();
            int heir = NONE;
            if (sort == NUMBER) {
                if (!isNumber(0, draft.people - 1)) {
                    return false;
                }
                heir = takeNumber();
            }
            draft.addPerson(strength, span, heir);
            return true;
        }

        private boolean readPromise(Told draft, int kind) {
            if (!draft.hasRoomForPromise()) {
                return false;
            }
            toNextToken();
            if (!isNumber(0, draft.people - 1)) {
                return false;
            }
            int person = takeNumber();
            if (!isNumber(1, 40)) {
                return false;
            }
            int work = takeNumber();
            int needs = 0;
            if (sort == WORD) {
                needs = needsByWord(draft.promises);
                if (needs == NONE) {
                    return false;
                }
                toNextToken();
            }
            draft.addPromise(kind, person, work, needs);
            return true;
        }

        private boolean readStrife(Told draft) {
            toNextToken();
            if (!isNumber(0, draft.promises - 1)) {
                return false;
            }
            int one = takeNumber();
            if (!isNumber(0, draft.promises - 1) || numberHere() == one) {
                return false;
            }
            draft.addStrife(one, takeNumber());
            return true;
        }

        private int needsByWord(int promises) {
            int needs = 0;
            int last = NONE;
            for (int i = start; i < end; i++) {
                int promise = letters[i] - 'a';
                if (promise <= last || promise >= promises) {
                    return NONE;
                }
                needs |= 1 << promise;
                last = promise;
            }
            return needs;
        }

        private void toNextToken() {
            start = end;
            while (start < length && letters[start] == ' ') {
                start++;
            }
            end = Math.min(start + 1, length);
            sort = start < length ? sortOf(letters[start]) : END;
            while (sort != SIGN && end < length && sortOf(letters[end]) == sort) {
                end++;
            }
        }

        /** Compares by itself: reading is the deepest of all calls, and LANGUAGE.md lets none go deeper than eight. */
        private static int sortOf(int letter) {
            if (letter >= 'a' && letter <= 'z') {
                return WORD;
            }
            return letter >= '0' && letter <= '9' ? NUMBER : SIGN;
        }

        /** Digits beyond the second do not count: such a number cannot stand anyway, and a long one would overflow. */
        private int numberHere() {
            int number = 0;
            for (int i = start; i < end && i < start + MOST_DIGITS; i++) {
                number = number * 10 + letters[i] - '0';
            }
            return number;
        }

        private int takeNumber() {
            int taken = numberHere();
            toNextToken();
            return taken;
        }

        private boolean isNumber(int least, int most) {
            return sort == NUMBER && end - start <= MOST_DIGITS && isWithin(numberHere(), least, most);
        }

        private boolean isSign(char sign) {
            return sort == SIGN && letters[start] == sign;
        }

        private boolean isWord(String word) {
            if (sort != WORD || end - start != word.length()) {
                return false;
            }
            for (int i = 0; i < word.length(); i++) {
                if (letters[start + i] != word.charAt(i)) {
                    return false;
                }
            }
            return true;
        }
    }

    /**
     * What years and gifts change. All promises stand in one row; those of one holder, as they follow one another
     * there, are its order. So to be behind all of somebody's is to be last in the row.
     */
    private static final class State {
        private final Told told;
        final int[] span = new int[MOST_PEOPLE];
        final int[] work = new int[MOST_PROMISES];
        final int[] done = new int[MOST_PROMISES];
        final int[] holder = new int[MOST_PROMISES];
        final int[] row = new int[MOST_PROMISES];
        int year, keptOnes;

        State(Told told) {
            this.told = told;
        }

        void setAsTold() {
            System.arraycopy(told.span, 0, span, 0, MOST_PEOPLE);
            System.arraycopy(told.work, 0, work, 0, MOST_PROMISES);
            System.arraycopy(told.holder, 0, holder, 0, MOST_PROMISES);
            for (int p = 0; p < MOST_PROMISES; p++) {
                done[p] = 0;
                row[p] = p;
            }
            year = 0;
            keptOnes = 0;
        }

        void copyFrom(State other) {
            System.arraycopy(other.span, 0, span, 0, MOST_PEOPLE);
            System.arraycopy(other.work, 0, work, 0, MOST_PROMISES);
            System.arraycopy(other.done, 0, done, 0, MOST_PROMISES);
            System.arraycopy(other.holder, 0, holder, 0, MOST_PROMISES);
            System.arraycopy(other.row, 0, row, 0, MOST_PROMISES);
            year = other.year;
            keptOnes = other.keptOnes;
        }

        boolean isOpen(int promise, int keptThen) {
            return (keptThen >> promise & 1) == 0
                && Kind.canBeWorkedAt(told.kind[promise])
                && (told.needs[promise] & ~keptThen) == 0;
        }

        void passYears(int n) {
            for (int i = 0; i < n; i++) {
                workAll();
                ageAll();
                year++;
            }
        }

        /** The dead hold nothing, so whoever holds a promise here can work. */
        private void workAll() {
            int keptAhead = keptOnes;
            int busy = 0;
            for (int i = 0; i < told.promises; i++) {
                int promise = row[i];
                int person = holder[promise];
                if (isWithin(person, 0, MOST_PEOPLE - 1) && (busy >> person & 1) == 0 && isOpen(promise, keptAhead)) {
                    busy |= 1 << person;
                    workAt(promise, told.strength[person]);
                }
            }
        }

        private void workAt(int promise, int strength) {
            done[promise] += Kind.does(told.kind[promise], strength);
            if (done[promise] >= work[promise]) {
                done[promise] = work[promise];
                markKept(promise);
            }
        }

        private void markKept(int promise) {
            holder[promise] = NONE;
            keptOnes |= 1 << promise;
        }

        /** All grow older before the first one dies: who dies in the same year inherits nothing. */
        private void ageAll() {
            int dying = 0;
            for (int person = 0; person < told.people; person++) {
                if (span[person] > 0) {
                    span[person]--;
                    if (span[person] == 0) {
                        dying |= 1 << person;
                    }
                }
            }
            for (int person = 0; person < told.people; person++) {
                if ((dying >> person & 1) != 0) {
                    leaveAll(person);
                }
            }
        }

        /** What is left to another goes to the row's end, so the next one is then at the same place. */
        private void leaveAll(int person) {
            int to = whoInherits(person);
            int place = 0;
            for (int i = 0; i < told.promises; i++) {
                int promise = row[place];
                if (holder[promise] != person) {
                    place++;
                } else if (Kind.isKeptByDeath(told.kind[promise])) {
                    markKept(promise);
                    place++;
                } else {
                    moveToEnd(place);
                    holder[promise] = to;
                }
            }
        }

        private int whoInherits(int person) {
            int heir = told.heir[person];
            return heir != NONE && span[heir] > 0 ? heir : THE_CAT;
        }

        void handOver(int promise, int to) {
            moveToEnd(placeOf(promise));
            holder[promise] = to;
        }

        private void moveToEnd(int place) {
            int promise = row[place];
            int last = told.promises - 1;
            for (int i = place; i < last; i++) {
                row[i] = row[i + 1];
                row[i + 1] = promise;
            }
        }

        void putFirst(int promise) {
            for (int i = placeOf(promise); i > 0; i--) {
                row[i] = row[i - 1];
            }
            row[0] = promise;
        }

        private int placeOf(int promise) {
            int place = 0;
            while (place < told.promises - 1 && row[place] != promise) {
                place++;
            }
            return place;
        }

        int rankOf(int promise) {
            int rank = 0;
            for (int i = 0; i < told.promises && row[i] != promise; i++) {
                if (holder[row[i]] == holder[promise]) {
                    rank++;
                }
            }
            return rank;
        }

        int howManyHeldBy(int who) {
            int many = 0;
            for (int p = 0; p < told.promises; p++) {
                if (holder[p] == who) {
                    many++;
                }
            }
            return many;
        }

        int heldAt(int who, int k) {
            int left = k;
            for (int i = 0; i < told.promises; i++) {
                if (holder[row[i]] == who) {
                    if (left == 0) {
                        return row[i];
                    }
                    left--;
                }
            }
            return NONE;
        }

        /** A promise needs only such as were told ahead of it, so one rising pass finds all. */
        int neverKept() {
            int never = 0;
            for (int p = 0; p < told.promises; p++) {
                boolean lacksForEver = Kind.canBeWorkedAt(told.kind[p]) && (told.needs[p] & never) != 0;
                if ((keptOnes >> p & 1) == 0 && (told.kind[p] == Kind.EVER || lacksForEver)) {
                    never |= 1 << p;
                }
            }
            return never;
        }

        int deadOnes() {
            int dead = 0;
            for (int person = 0; person < told.people; person++) {
                if (span[person] == 0) {
                    dead |= 1 << person;
                }
            }
            return dead;
        }

        int allDone() {
            int all = 0;
            for (int p = 0; p < told.promises; p++) {
                all += done[p];
            }
            return all;
        }
    }

    /** The states that can be had back, in a ring: the latest one overwrites the oldest. */
    private static final class Past {
        private static final int MOST = 8;

        private final State[] ring = new State[MOST];
        private int next;
        int size;

        Past(Told told) {
            for (int i = 0; i < MOST; i++) {
                ring[i] = new State(told);
            }
        }

        void remember(State state) {
            ring[next].copyFrom(state);
            next = (next + 1) % MOST;
            size = Math.min(size + 1, MOST);
        }

        void restoreLatest(State state) {
            if (size > 0) {
                next = (next + MOST - 1) % MOST;
                state.copyFrom(ring[next]);
                size--;
            }
        }
    }

    /** Tries years, orders and gifts on a state of its own, made once and used again by every call. */
    private static final class Foretelling {
        static final int MOST_ORDERED = 5, MOST_GIVEN = 3;

        private final Told told;
        private final State trial;
        private final int[] places = new int[MOST_ORDERED];
        private final int[] tried = new int[MOST_ORDERED];
        private final int[] best = new int[MOST_ORDERED];
        private int size, mostKept;

        Foretelling(Told told) {
            this.told = told;
            trial = new State(told);
        }

        State stateBehind(State now, int n) {
            trial.copyFrom(now);
            trial.passYears(n);
            return trial;
        }

        int yearsUntilKept(State now, int promise) {
            trial.copyFrom(now);
            for (int n = 0; n <= LONGEST_SPAN; n++) {
                if (trial.holder[promise] == NONE) {
                    return n;
                }
                trial.passYears(1);
            }
            return NONE;
        }

        int yearsUntilFree(State now, int person) {
            trial.copyFrom(now);
            for (int n = 0; n <= LONGEST_SPAN && trial.span[person] > 0; n++) {
                if (trial.howManyHeldBy(person) == 0) {
                    return n;
                }
                trial.passYears(1);
            }
            return NONE;
        }

        /** The latest search's answer: how many are kept (NONE), or what stands at the k-th place. */
        int answerAt(int k) {
            if (k == NONE) {
                return mostKept;
            }
            return isWithin(k, 0, size - 1) ? best[k] : NONE;
        }

        /** Orders are tried rising, and only a better one replaces the best: so the first of the best is left. */
        void findBestOrder(State now, int person, int n) {
            findPlaces(now, person);
            mostKept = NONE;
            boolean isMore = true;
            for (int i = 0; isMore && i < 120; i++) {
                trial.copyFrom(now);
                for (int j = 0; j < size; j++) {
                    trial.row[places[j]] = tried[j];
                }
                weighTrial(n);
                isMore = toNextOrder();
            }
        }

        private void findPlaces(State now, int person) {
            int many = 0;
            for (int i = 0; i < told.promises && many < MOST_ORDERED; i++) {
                if (now.holder[now.row[i]] == person) {
                    places[many] = i;
                    many++;
                }
            }
            size = 0;
            for (int p = 0; p < told.promises && size < many; p++) {
                if (now.holder[p] == person) {
                    tried[size] = p;
                    size++;
                }
            }
        }

        private void weighTrial(int n) {
            trial.passYears(n);
            int many = Integer.bitCount(trial.keptOnes);
            if (many > mostKept) {
                mostKept = many;
                System.arraycopy(tried, 0, best, 0, size);
            }
        }

        /** The next order by numbers: the last place that can rise does, by the least, and all behind it is sorted. */
        private boolean toNextOrder() {
            int rising = size - 2;
            while (rising >= 0 && tried[rising] > tried[rising + 1]) {
                rising--;
            }
            if (rising < 0) {
                return false;
            }
            int larger = size - 1;
            while (larger > rising + 1 && tried[larger] < tried[rising]) {
                larger--;
            }
            swapTried(rising, larger);
            for (int low = rising + 1, high = size - 1; low < high; low++, high--) {
                swapTried(low, high);
            }
            return true;
        }

        private void swapTried(int one, int other) {
            int held = tried[one];
            tried[one] = tried[other];
            tried[other] = held;
        }

        /** Ways are told by the digits of a number, the first promise's in front, 0 for left: so rising is first. */
        void findBestGodfathers(State now, int n) {
            size = Math.min(now.howManyHeldBy(THE_CAT), MOST_GIVEN);
            int ways = 1;
            for (int j = 0; j < size; j++) {
                ways *= told.people + 1;
            }
            mostKept = NONE;
            for (int way = 0; way < ways; way++) {
                chooseWay(way);
                if (areChosenAlive(now)) {
                    trial.copyFrom(now);
                    giveAsChosen(now);
                    weighTrial(n);
                }
            }
        }

        private void chooseWay(int way) {
            int left = way;
            for (int j = size - 1; j >= 0; j--) {
                tried[j] = left % (told.people + 1) - 1;
                left /= told.people + 1;
            }
        }

        private boolean areChosenAlive(State now) {
            for (int j = 0; j < size; j++) {
                if (tried[j] != NONE && now.span[tried[j]] == 0) {
                    return false;
                }
            }
            return true;
        }

        private void giveAsChosen(State now) {
            for (int j = 0; j < size; j++) {
                int promise = now.heldAt(THE_CAT, j);
                if (tried[j] != NONE && promise != NONE) {
                    trial.handOver(promise, tried[j]);
                }
            }
        }
    }

    /** Works that were seen, and by which kinds they can have been done. */
    private static final class Sightings {
        private static final int MOST = 6, GREATEST_STRENGTH = 9;

        private final int[] strength = new int[MOST];
        private final int[] years = new int[MOST];
        private final int[] much = new int[MOST];
        int size;

        boolean add(int s, int n, int d) {
            if (size >= MOST) {
                return false;
            }
            strength[size] = s;
            years[size] = n;
            much[size] = d;
            size++;
            return true;
        }

        int possibleKinds() {
            int possible = 0;
            for (int kind = 0; kind < Kind.HOW_MANY; kind++) {
                if (fitsAll(kind)) {
                    possible |= 1 << kind;
                }
            }
            return possible;
        }

        private boolean fitsAll(int kind) {
            for (int i = 0; i < size; i++) {
                if (Kind.does(kind, strength[i]) * years[i] != much[i]) {
                    return false;
                }
            }
            return true;
        }

        /** One who leaves all of them alike parts nothing, so only less than all is good enough. */
        static int bestStrength(int among) {
            int best = NONE;
            int least = Integer.bitCount(among);
            for (int s = 1; s <= GREATEST_STRENGTH; s++) {
                int alike = greatestAlike(among, s);
                if (alike < least) {
                    least = alike;
                    best = s;
                }
            }
            return best;
        }

        private static int greatestAlike(int among, int s) {
            int greatest = 0;
            for (int one = 0; one < Kind.HOW_MANY; one++) {
                int alike = 0;
                for (int other = 0; other < Kind.HOW_MANY; other++) {
                    boolean areBoth = (among >> one & 1) != 0 && (among >> other & 1) != 0;
                    if (areBoth && Kind.does(one, s) == Kind.does(other, s)) {
                        alike++;
                    }
                }
                greatest = Math.max(greatest, alike);
            }
            return greatest;
        }
    }

    /** Odds of idle years, counted as ways out of ten to the number of years. */
    private static final class Odds {
        static int partOf(int n, int q, int m, int part) {
            long above = 0;
            for (int worked = m; worked <= n; worked++) {
                above += choices(n, worked) * power(10 - q, worked) * power(q, n - worked);
            }
            long below = power(10, n);
            long common = commonDivisor(above, below);
            if (common == 0) {
                return 0;
            }
            return (int) ((part == 0 ? above : below) / common);
        }

        private static long choices(int n, int k) {
            long ways = 1;
            for (int i = 1; i <= k; i++) {
                ways = ways * (n - k + i) / i;
            }
            return ways;
        }

        private static long power(int base, int exponent) {
            long product = 1;
            for (int i = 0; i < exponent; i++) {
                product *= base;
            }
            return product;
        }

        /** Each two steps halve the number, so a hundred are plenty. */
        private static long commonDivisor(long one, long other) {
            long large = one;
            long small = other;
            for (int i = 0; i < 100 && small != 0; i++) {
                long rest = large % small;
                large = small;
                small = rest;
            }
            return large;
        }
    }

    /** A page is one object wherever it is bound in, so what is entered at one place is read at all of them. */
    private static final class Page {
        static final int NUMBER = 0, NOTHING = 2;

        final int[] sort, value;

        Page(int lines) {
            int many = Math.max(lines, 0);
            sort = new int[many];
            value = new int[many];
            for (int i = 0; i < many; i++) {
                sort[i] = NOTHING;
            }
        }

        void put(int i, int what, int v) {
            sort[i] = what;
            value[i] = v;
        }

        int filled() {
            int many = 0;
            for (int i = 0; i < sort.length; i++) {
                if (sort[i] != NOTHING) {
                    many++;
                }
            }
            return many;
        }
    }

    /** Leaves are where pages are bound in; a leaf that is null is a missing page. */
    private static final class Register {
        final Page[] leaves;

        Register(int n) {
            leaves = new Page[Math.max(n, 0)];
        }

        boolean hasPlace(int p) {
            return isWithin(p, 0, leaves.length - 1);
        }

        int pagesThere() {
            int many = 0;
            for (int p = 0; p < leaves.length; p++) {
                if (leaves[p] != null) {
                    many++;
                }
            }
            return many;
        }

        int unlikePages() {
            int many = 0;
            for (int p = 0; p < leaves.length; p++) {
                if (isFirstOfItsPage(p)) {
                    many++;
                }
            }
            return many;
        }

        int filledLines() {
            int many = 0;
            for (int p = 0; p < leaves.length; p++) {
                if (isFirstOfItsPage(p)) {
                    many += leaves[p].filled();
                }
            }
            return many;
        }

        private boolean isFirstOfItsPage(int p) {
            for (int q = 0; q < p; q++) {
                if (leaves[q] == leaves[p]) {
                    return false;
                }
            }
            return leaves[p] != null;
        }
    }

    /** The registers by their numbers; one that is null is missing. */
    private static final class Shelf {
        static final int MOST_REGISTERS = 3, MOST_PAGES = 5, MOST_LINES = 6, FINE = 0;

        final Register[] registers = new Register[MOST_REGISTERS];

        void clear() {
            for (int r = 0; r < MOST_REGISTERS; r++) {
                registers[r] = null;
            }
        }

        int registersThere() {
            int many = 0;
            for (int r = 0; r < MOST_REGISTERS; r++) {
                if (registers[r] != null) {
                    many++;
                }
            }
            return many;
        }

        int flawOfPlaces(int one, int p, int other, int q) {
            Register first = registers[one];
            Register second = registers[other];
            if (first == null || second == null) {
                return NULL;
            }
            return first.hasPlace(p) && second.hasPlace(q) ? FINE : INDEX;
        }

        int flawOfLine(int register, int p, int i) {
            int flaw = flawOfPlaces(register, p, register, p);
            if (flaw != FINE) {
                return flaw;
            }
            Page leaf = registers[register].leaves[p];
            if (leaf == null) {
                return VOID;
            }
            return isWithin(i, 0, leaf.sort.length - 1) ? FINE : LINE;
        }
    }
}
