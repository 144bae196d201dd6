import java.util.Arrays;

/** Alarms of an analysis, kept from build to build; the numbered promises stand in the document. */
public final class AlarmGroups {
    public static final int NONE = -1, BAD = -2, STATE = -3, ROOM = -4;

    private static final int FAULT = -10;
    private static final int TEXT_MOST = 160, OUT_MOST = 800;
    private static final int BUILDS_MOST = 12, LINES_MOST = 40, FILES = 6;
    private static final int ALARMS_MOST = 50, KINDS = 10, SETS_END = 65536, ODDS_MOST = 1000;
    private static final int FACTS = 16, RULES_MOST = 20;
    private static final int SILENCES_MOST = 12, REASON_MOST = 20;
    private static final int PATH_MOST = 24, PATTERNS_MOST = 8, OWNERS = 10;

    private static final int TOLD = 0, CARRIED = 1, GONE = 2;
    private static final int ALL_TOLD = 0, CLOSED = 1, SILENCED = 2, OPEN = 3, TRENDS = 4;
    private static final int OF_LINES = 0, OF_FILE = 1, OF_ALL = 2;

    private static final char QUOTE = '\'';

    private final Row text = new Row(TEXT_MOST);
    private final Row list = new Row(OUT_MOST);
    private final Matching matching = new Matching();
    private final Alarms alarms = new Alarms();
    private final Facts facts = new Facts();
    private final Silences silences = new Silences();
    private final Ranks ranks = new Ranks();
    private final Lists lists = new Lists();
    private final Parts[] paths = new Parts[FILES];
    private final Parts[] patterns = new Parts[PATTERNS_MOST];
    private final int[] patternOwners = new int[PATTERNS_MOST];
    /** For each BUILD before NOW the sets of ALARMS that trend() and compare() ask for. */
    private final long[] past = new long[BUILDS_MOST * TRENDS];
    private Lines draft = new Lines();
    private Lines now = new Lines();
    private int builds;
    private int patternCount;

    public AlarmGroups() {
        for (int i = 0; i < FILES; i++) {
            paths[i] = new Parts();
        }
        for (int i = 0; i < PATTERNS_MOST; i++) {
            patterns[i] = new Parts();
        }
    }

    public int feed(int n, long w) {
        if (n < 1 || n > 8) {
            return BAD;
        }
        if (n > text.room()) {
            return ROOM;
        }
        for (int i = n - 1; i >= 0; i--) {
            text.add((int) (w >>> (8 * i)));
        }
        return text.size();
    }

    public int cut(int n) {
        if (n < 0 || n > text.size()) {
            return BAD;
        }
        int gone = text.size() - n;
        text.keep(n);
        return gone;
    }

    // ---- builds

    public int line(int file, int mark) {
        if (!isFile(file)) {
            return BAD;
        }
        if (draft.size >= LINES_MOST) {
            return ROOM;
        }
        draft.add(file, mark);
        return draft.size;
    }

    public int build() {
        if (builds >= BUILDS_MOST) {
            return ROOM;
        }
        if (builds > 0) {
            keepTrends(builds - 1);
        }
        matching.match(now, draft);
        alarms.carry(draft);
        silences.carry(draft);
        Lines older = now;
        now = draft;
        draft = older;
        draft.clear();
        builds++;
        return builds - 1;
    }

    public int partner(int line) {
        return now.has(line) ? now.before[line] : BAD;
    }

    // ---- alarms

    public int alarm(int line, int kind, int wants, int p, int q) {
        if (!now.has(line) || kind < 0 || kind >= KINDS || !isSet(wants)) {
            return BAD;
        }
        if (q < 1 || q > ODDS_MOST || p < 0 || p > q) {
            return BAD;
        }
        int number = alarms.find(line, kind);
        if (number == NONE) {
            if (alarms.size >= ALARMS_MOST) {
                return ROOM;
            }
            number = alarms.add(line, kind);
        }
        alarms.tell(number, wants, p, q);
        return number;
    }

    public int of(int alarm, int what) {
        if (!alarms.has(alarm)) {
            return BAD;
        }
        switch (what) {
            case 0: return alarms.line[alarm];
            case 1: return alarms.kind[alarm];
            case 2: return alarms.wants[alarm];
            case 3: return alarms.state[alarm];
            case 4: return alarms.isClosed(alarm, facts.knownWith(0)) ? 1 : 0;
            case 5: return silencerOf(alarm);
            case 6: return ownerOf(now.fileOf(alarms.line[alarm]));
            case 7: return buildsOf(alarm);
            case 8: return alarms.p[alarm];
            case 9: return alarms.q[alarm];
            default: return BAD;
        }
    }

    public int why(int alarm, int i) {
        if (!alarms.has(alarm)) {
            return BAD;
        }
        return member(alarms.wants[alarm] & ~facts.knownWith(0), i);
    }

    // ---- facts

    public int rule(int set, int head) {
        if (!isSet(set) || !isFact(head)) {
            return BAD;
        }
        if (facts.rules >= RULES_MOST) {
            return ROOM;
        }
        facts.addRule(set, head);
        return facts.rules;
    }

    public int prove(int fact, boolean is) {
        if (!isFact(fact)) {
            return BAD;
        }
        facts.setProved(1 << fact, is);
        return facts.knownWith(0);
    }

    public int known(int fact) {
        if (fact == NONE) {
            return facts.knownWith(0);
        }
        return isFact(fact) ? facts.knownWith(1 << fact) : BAD;
    }

    public int closes(int fact, int alarm) {
        if (!isFact(fact) || !alarms.has(alarm)) {
            return BAD;
        }
        return alarms.isClosed(alarm, facts.knownWith(1 << fact)) ? 1 : 0;
    }

    public int groups() {
        facts.groupAll(alarms, setNow(OPEN));
        return facts.groupCount;
    }

    public int group(int k, int i) {
        facts.groupAll(alarms, setNow(OPEN));
        if (k < 0 || k >= facts.groupCount) {
            return BAD;
        }
        return i == -2 ? facts.groupFact[k] : member(facts.groupSet[k], i);
    }

    // ---- silences

    public int silence() {
        int answer = silences.take(text, now.size, builds - 1);
        text.clear();
        return answer;
    }

    public int silent(int k, int what) {
        if (!silences.has(k)) {
            return BAD;
        }
        Silence one = silences.slots[k];
        switch (what) {
            case 0: return one.until;
            case 1: return one.kind;
            case 2: return one.form;
            case 3: return one.file;
            case 4: return one.holds(builds - 1) ? 1 : 0;
            case 5: return silencedBy(k);
            default: return BAD;
        }
    }

    public long held(int k) {
        return silences.has(k) ? silences.slots[k].linesOf(now) : BAD;
    }

    public int reason(int k, int i) {
        if (!silences.has(k)) {
            return BAD;
        }
        Row words = silences.slots[k].words;
        if (i == -1) {
            return words.size();
        }
        return i >= 0 && i < words.size() ? words.at(i) : BAD;
    }

    public int lift(int k) {
        if (!silences.has(k)) {
            return BAD;
        }
        silences.remove(k);
        return silences.size;
    }

    // ---- owners

    public int path(int file) {
        int answer = BAD;
        if (isFile(file)) {
            answer = Parts.check(text, false);
            if (answer >= 0) {
                paths[file].set(text);
            }
        }
        text.clear();
        return answer;
    }

    public int pattern(int owner) {
        int answer = BAD;
        if (owner >= 0 && owner < OWNERS) {
            answer = Parts.check(text, true);
            if (answer >= 0) {
                answer = addPattern(owner);
            }
        }
        text.clear();
        return answer;
    }

    public int owner(int file) {
        return isFile(file) ? ownerOf(file) : BAD;
    }

    // ---- ranks, lists

    public int rank(int k) {
        if (k < 0) {
            return BAD;
        }
        ranks.order(alarms, setNow(OPEN), true);
        return k < ranks.size ? ranks.row[k] : NONE;
    }

    public int budget(int n, int m) {
        if (n < 0 || n > ALARMS_MOST || m < 0 || m > ALARMS_MOST) {
            return BAD;
        }
        ranks.order(alarms, setNow(OPEN), true);
        ranks.choose(alarms, now, n, m);
        return ranks.chosenSize;
    }

    public int chosen(int i) {
        if (i < 0) {
            return BAD;
        }
        return i < ranks.chosenSize ? ranks.chosenRow[i] : NONE;
    }

    public int compare(int first, int second, int what, int i) {
        if (!isBuild(first) || !isBuild(second)) {
            return BAD;
        }
        long one = setOf(first, ALL_TOLD);
        long two = setOf(second, ALL_TOLD);
        switch (what) {
            case 0: return member(two & ~one, i);
            case 1: return member(one & ~two, i);
            case 2: return member(one & two, i);
            default: return BAD;
        }
    }

    public int trend(int build, int what) {
        if (!isBuild(build) || what < 0 || what >= TRENDS) {
            return BAD;
        }
        return Long.bitCount(setOf(build, what));
    }

    public int out() {
        ranks.order(alarms, setNow(ALL_TOLD), false);
        lists.write(list, alarms, ranks);
        return list.size();
    }

    public int outByte(int i) {
        return list.at(i);
    }

    public int back(int i, int n) {
        if (i < 0 || n < 0 || i > list.size() || n > list.size() - i) {
            return BAD;
        }
        if (n > text.room()) {
            return ROOM;
        }
        text.addPart(list, i, n);
        return text.size();
    }

    public int read() {
        int answer = lists.countTold(text, alarms);
        text.clear();
        return answer;
    }

    public int count(int what) {
        switch (what) {
            case 0: return builds;
            case 1: return now.size;
            case 2: return alarms.size;
            case 3: return facts.rules;
            case 4: return silences.size;
            case 5: return patternCount;
            case 6: return text.size();
            case 7: return draft.size;
            case 8: return Long.bitCount(setNow(OPEN));
            case 9: return list.size();
            default: return BAD;
        }
    }

    // ---- what the calls share

    private static boolean isFile(int file) {
        return file >= 0 && file < FILES;
    }

    private static boolean isFact(int fact) {
        return fact >= 0 && fact < FACTS;
    }

    private static boolean isSet(int set) {
        return set >= 0 && set < SETS_END;
    }

    private boolean isBuild(int build) {
        return build >= 0 && build < builds;
    }

    /** The i-th member of a set, rising; i = -1: how many; BAD, if there is no such one. */
    private static int member(long set, int i) {
        int size = Long.bitCount(set);
        if (i == -1) {
            return size;
        }
        if (i < 0 || i >= size) {
            return BAD;
        }
        int ahead = i;
        for (int bit = 0; bit < 64; bit++) {
            if ((set >>> bit & 1L) != 0L) {
                if (ahead == 0) {
                    return bit;
                }
                ahead--;
            }
        }
        return BAD;
    }

    private int silencerOf(int alarm) {
        if (alarms.state[alarm] != TOLD) {
            return NONE;
        }
        int line = alarms.line[alarm];
        return silences.firstFor(line, now.fileOf(line), alarms.kind[alarm], builds - 1);
    }

    private int silencedBy(int k) {
        int n = 0;
        for (int a = 0; a < alarms.size; a++) {
            if (silencerOf(a) == k) {
                n++;
            }
        }
        return n;
    }

    private int buildsOf(int alarm) {
        int n = alarms.state[alarm] == TOLD ? 1 : 0;
        for (int b = 0; b < builds - 1; b++) {
            if ((past[b * TRENDS + ALL_TOLD] >>> alarm & 1L) != 0L) {
                n++;
            }
        }
        return n;
    }

    private long setOf(int build, int what) {
        return build == builds - 1 ? setNow(what) : past[build * TRENDS + what];
    }

    /** Of the ALARMS that are TOLD now those that a trend is about. */
    private long setNow(int what) {
        int known = facts.knownWith(0);
        long set = 0L;
        for (int a = 0; a < alarms.size; a++) {
            if (alarms.state[a] == TOLD && belongs(a, what, known)) {
                set |= 1L << a;
            }
        }
        return set;
    }

    private boolean belongs(int alarm, int what, int known) {
        switch (what) {
            case ALL_TOLD: return true;
            case CLOSED: return alarms.isClosed(alarm, known);
            case SILENCED: return silencerOf(alarm) != NONE;
            default: return !alarms.isClosed(alarm, known) && silencerOf(alarm) == NONE;
        }
    }

    private void keepTrends(int build) {
        for (int what = 0; what < TRENDS; what++) {
            past[build * TRENDS + what] = setNow(what);
        }
    }

    private int addPattern(int owner) {
        if (patternCount >= PATTERNS_MOST) {
            return ROOM;
        }
        patterns[patternCount].set(text);
        patternOwners[patternCount] = owner;
        patternCount++;
        return patternCount;
    }

    private int ownerOf(int file) {
        if (!isFile(file)) {
            return NONE;
        }
        for (int i = patternCount - 1; i >= 0; i--) {
            if (patterns[i].fits(paths[file])) {
                return patternOwners[i];
            }
        }
        return NONE;
    }

    /** A row of bytes with a limit. */
    private static final class Row {
        private final byte[] bytes;
        private int size;

        Row(int most) {
            bytes = new byte[Math.max(most, 0)];
        }

        int size() {
            return size;
        }

        int room() {
            return bytes.length - size;
        }

        int at(int i) {
            return i >= 0 && i < size ? bytes[i] & 255 : NONE;
        }

        void add(int b) {
            if (size < bytes.length) {
                bytes[size] = (byte) b;
                size++;
            }
        }

        void addPart(Row from, int first, int n) {
            for (int i = 0; i < n; i++) {
                add(from.at(first + i));
            }
        }

        void keep(int n) {
            if (n >= 0 && n < size) {
                size = n;
            }
        }

        void clear() {
            size = 0;
        }
    }

    /** The LINES of a BUILD or of THE DRAFT. */
    private static final class Lines {
        final int[] file = new int[LINES_MOST];
        final int[] mark = new int[LINES_MOST];
        /** The PARTNERS in the BUILD before, as Matching finds them. */
        final int[] before = new int[LINES_MOST];
        int size;

        boolean has(int line) {
            return line >= 0 && line < size;
        }

        void add(int itsFile, int itsMark) {
            if (size < LINES_MOST) {
                file[size] = itsFile;
                mark[size] = itsMark;
                before[size] = NONE;
                size++;
            }
        }

        void clear() {
            size = 0;
        }

        int fileOf(int line) {
            return line >= 0 && line < size ? file[line] : NONE;
        }

        /** The PARTNER here of a LINE of the BUILD before. */
        int laterOf(int older) {
            if (older < 0) {
                return NONE;
            }
            for (int i = 0; i < size; i++) {
                if (before[i] == older) {
                    return i;
                }
            }
            return NONE;
        }

        /** The PARTNERS here of a set of LINES of the BUILD before. */
        long laterSet(long olders) {
            long set = 0L;
            for (int i = 0; i < size; i++) {
                if (before[i] >= 0 && (olders >>> before[i] & 1L) != 0L) {
                    set |= 1L << i;
                }
            }
            return set;
        }
    }

    /** Finds the PARTNERS of two BUILDS; its rows are kept, so that no call makes new ones. */
    private static final class Matching {
        private static final int WIDTH = LINES_MOST + 1;
        private final int[] older = new int[LINES_MOST];
        private final int[] newer = new int[LINES_MOST];
        private final int[] most = new int[WIDTH * WIDTH];
        private int olders;
        private int newers;

        void match(Lines before, Lines later) {
            for (int file = 0; file < FILES; file++) {
                olders = collect(before, file, older);
                newers = collect(later, file, newer);
                fillMost(before, later);
                pair(before, later);
            }
        }

        private static int collect(Lines lines, int file, int[] into) {
            int n = 0;
            for (int i = 0; i < lines.size; i++) {
                if (lines.file[i] == file) {
                    into[n] = i;
                    n++;
                }
            }
            return n;
        }

        private boolean alike(Lines before, Lines later, int p, int q) {
            return before.mark[older[p]] == later.mark[newer[q]];
        }

        /** From the ends back, since MOST of a place rests on those behind it. */
        private void fillMost(Lines before, Lines later) {
            for (int p = olders; p >= 0; p--) {
                for (int q = newers; q >= 0; q--) {
                    int here = p * WIDTH + q;
                    if (p == olders || q == newers) {
                        most[here] = 0;
                    } else if (alike(before, later, p, q)) {
                        most[here] = 1 + most[here + WIDTH + 1];
                    } else {
                        most[here] = Math.max(most[here + WIDTH], most[here + 1]);
                    }
                }
            }
        }

        private void pair(Lines before, Lines later) {
            int p = 0;
            int q = 0;
            while (p < olders && q < newers) {
                int here = p * WIDTH + q;
                if (alike(before, later, p, q)) {
                    later.before[newer[q]] = older[p];
                    p++;
                    q++;
                } else if (most[here + WIDTH] >= most[here + 1]) {
                    p++;
                } else {
                    q++;
                }
            }
        }
    }

    /** All ALARMS, a column for each thing that is asked of them. */
    private static final class Alarms {
        final int[] line = new int[ALARMS_MOST];
        final int[] kind = new int[ALARMS_MOST];
        final int[] wants = new int[ALARMS_MOST];
        final int[] p = new int[ALARMS_MOST];
        final int[] q = new int[ALARMS_MOST];
        final int[] state = new int[ALARMS_MOST];
        int size;

        boolean has(int alarm) {
            return alarm >= 0 && alarm < size;
        }

        /** Those that are GONE have no LINE and so are never found. */
        int find(int itsLine, int itsKind) {
            for (int a = 0; a < size; a++) {
                if (state[a] != GONE && line[a] == itsLine && kind[a] == itsKind) {
                    return a;
                }
            }
            return NONE;
        }

        int add(int itsLine, int itsKind) {
            if (size >= ALARMS_MOST) {
                return NONE;
            }
            line[size] = itsLine;
            kind[size] = itsKind;
            size++;
            return size - 1;
        }

        void tell(int alarm, int itsWants, int itsP, int itsQ) {
            if (has(alarm)) {
                wants[alarm] = itsWants;
                p[alarm] = itsP;
                q[alarm] = itsQ;
                state[alarm] = TOLD;
            }
        }

        void carry(Lines later) {
            for (int a = 0; a < size; a++) {
                line[a] = state[a] == TOLD ? later.laterOf(line[a]) : NONE;
                state[a] = line[a] == NONE ? GONE : CARRIED;
            }
        }

        boolean isClosed(int alarm, int known) {
            return (wants[alarm] & ~known) == 0;
        }

        long closedOf(long set, int known) {
            long closed = 0L;
            for (int a = 0; a < size; a++) {
                if ((set >>> a & 1L) != 0L && isClosed(a, known)) {
                    closed |= 1L << a;
                }
            }
            return closed;
        }

        boolean isToldSo(int itsLine, int itsKind, int itsP, int itsQ) {
            int a = find(itsLine, itsKind);
            return a != NONE && state[a] == TOLD && p[a] == itsP && q[a] == itsQ;
        }
    }

    /** RULES, what is PROVED, and the GROUPS that TRIALS make. */
    private static final class Facts {
        final int[] groupFact = new int[FACTS + 1];
        final long[] groupSet = new long[FACTS + 1];
        int groupCount;
        int rules;
        private final int[] ruleSet = new int[RULES_MOST];
        private final int[] ruleHead = new int[RULES_MOST];
        private final long[] trials = new long[FACTS];
        private int proved;

        void addRule(int set, int head) {
            if (rules < RULES_MOST) {
                ruleSet[rules] = set;
                ruleHead[rules] = 1 << head;
                rules++;
            }
        }

        void setProved(int bit, boolean is) {
            proved = is ? proved | bit : proved & ~bit;
        }

        /** Each round but the last makes one FACT more KNOWN, so FACTS rounds are enough. */
        int knownWith(int more) {
            int known = proved | more;
            for (int round = 0; round < FACTS; round++) {
                int next = applied(known);
                if (next == known) {
                    break;
                }
                known = next;
            }
            return known;
        }

        private int applied(int known) {
            int next = known;
            for (int i = 0; i < rules; i++) {
                if ((ruleSet[i] & ~next) == 0) {
                    next |= ruleHead[i];
                }
            }
            return next;
        }

        void groupAll(Alarms alarms, long open) {
            groupCount = 0;
            for (int fact = 0; fact < FACTS; fact++) {
                trials[fact] = alarms.closedOf(open, knownWith(1 << fact));
            }
            long left = open;
            for (int round = 0; round < FACTS; round++) {
                int best = bestTrial(left);
                if (best == NONE) {
                    break;
                }
                addGroup(best, left & trials[best]);
                left &= ~trials[best];
            }
            if (left != 0L) {
                addGroup(NONE, left);
            }
        }

        private int bestTrial(long left) {
            int best = NONE;
            int closed = 0;
            for (int fact = 0; fact < FACTS; fact++) {
                int n = Long.bitCount(left & trials[fact]);
                if (n > closed) {
                    best = fact;
                    closed = n;
                }
            }
            return best;
        }

        private void addGroup(int fact, long set) {
            if (groupCount <= FACTS) {
                groupFact[groupCount] = fact;
                groupSet[groupCount] = set;
                groupCount++;
            }
        }
    }

    /** ALARMS in an order, and those CHOSEN of them. */
    private static final class Ranks {
        final int[] row = new int[ALARMS_MOST];
        final int[] chosenRow = new int[ALARMS_MOST];
        int size;
        int chosenSize;
        private final int[] perFile = new int[FILES];

        void order(Alarms alarms, long set, boolean byOdds) {
            size = 0;
            for (int a = 0; a < alarms.size; a++) {
                if ((set >>> a & 1L) != 0L) {
                    insert(alarms, a, byOdds);
                }
            }
        }

        private void insert(Alarms alarms, int alarm, boolean byOdds) {
            if (size >= ALARMS_MOST) {
                return;
            }
            int place = size;
            while (place > 0 && isAhead(alarms, alarm, row[place - 1], byOdds)) {
                row[place] = row[place - 1];
                place--;
            }
            row[place] = alarm;
            size++;
        }

        private static boolean isAhead(Alarms alarms, int a, int b, boolean byOdds) {
            if (byOdds) {
                // crosswise, since a quotient would not be exact
                int one = alarms.p[a] * alarms.q[b];
                int two = alarms.p[b] * alarms.q[a];
                if (one != two) {
                    return one > two;
                }
            }
            if (alarms.line[a] != alarms.line[b]) {
                return alarms.line[a] < alarms.line[b];
            }
            return alarms.kind[a] < alarms.kind[b];
        }

        void choose(Alarms alarms, Lines lines, int n, int m) {
            Arrays.fill(perFile, 0);
            chosenSize = 0;
            for (int k = 0; k < size && chosenSize < n; k++) {
                int file = lines.fileOf(alarms.line[row[k]]);
                if (isFile(file) && perFile[file] < m) {
                    perFile[file]++;
                    chosenRow[chosenSize] = row[k];
                    chosenSize++;
                }
            }
        }
    }

    private static final class Silence {
        int until;
        int kind;
        int form;
        int file;
        /** Those told, or their PARTNERS: only of a SILENCE of LINES. */
        long lines;
        final Row words = new Row(REASON_MOST);

        void reset() {
            until = NONE;
            kind = NONE;
            form = OF_LINES;
            file = NONE;
            lines = 0L;
            words.clear();
        }

        boolean holds(int nowBuild) {
            return until == NONE || nowBuild <= until;
        }

        boolean hasLine(int line, int fileOfLine) {
            switch (form) {
                case OF_ALL: return true;
                case OF_FILE: return fileOfLine == file;
                default: return (lines >>> line & 1L) != 0L;
            }
        }

        long linesOf(Lines all) {
            long set = 0L;
            for (int i = 0; i < all.size; i++) {
                if (hasLine(i, all.file[i])) {
                    set |= 1L << i;
                }
            }
            return set;
        }
    }

    /** The SILENCES in their order, and the reading of a text of some. */
    private static final class Silences {
        /** The slots behind the last SILENCE are for those being read; one more than can stay. */
        final Silence[] slots = new Silence[SILENCES_MOST + 1];
        int size;
        private final Tokens tokens = new Tokens();

        Silences() {
            for (int i = 0; i <= SILENCES_MOST; i++) {
                slots[i] = new Silence();
            }
        }

        boolean has(int k) {
            return k >= 0 && k < size;
        }

        void carry(Lines later) {
            for (int k = 0; k < size; k++) {
                slots[k].lines = later.laterSet(slots[k].lines);
            }
        }

        int firstFor(int line, int file, int kind, int nowBuild) {
            for (int k = 0; k < size; k++) {
                Silence one = slots[k];
                boolean ofKind = one.kind == NONE || one.kind == kind;
                if (ofKind && one.holds(nowBuild) && one.hasLine(line, file)) {
                    return k;
                }
            }
            return NONE;
        }

        void remove(int k) {
            if (!has(k)) {
                return;
            }
            Silence gone = slots[k];
            for (int i = k; i < size - 1; i++) {
                slots[i] = slots[i + 1];
            }
            slots[size - 1] = gone;
            size--;
        }

        /** A FAULT goes ahead of ROOM, so the text is read to its end in any case. */
        int take(Row text, int lineCount, int nowBuild) {
            tokens.split(text);
            int end = size;
            for (int i = 0; i < TEXT_MOST; i++) {
                if (!takeOne(slots[Math.min(end, SILENCES_MOST)], lineCount, nowBuild)) {
                    return FAULT - tokens.start();
                }
                end++;
                if (tokens.standsAt(Tokens.END)) {
                    break;
                }
            }
            if (end > SILENCES_MOST) {
                return ROOM;
            }
            size = end;
            return size;
        }

        /** Where it answers false, the TOKEN that is next is the one that can't stand. */
        private boolean takeOne(Silence into, int lineCount, int nowBuild) {
            into.reset();
            return tokens.takeWord("silence")
                && takeWhere(into, lineCount)
                && takeKind(into)
                && takeUntil(into, nowBuild)
                && takeReason(into)
                && tokens.takeSemicolon();
        }

        private boolean takeWhere(Silence into, int lineCount) {
            if (tokens.takeWord("all")) {
                into.form = OF_ALL;
                return true;
            }
            if (tokens.takeWord("file")) {
                into.form = OF_FILE;
                into.file = tokens.takeNumber(0, FILES - 1);
                return into.file != NONE;
            }
            if (tokens.takeWord("line")) {
                int only = tokens.takeNumber(0, lineCount - 1);
                return setLines(into, only, only);
            }
            return tokens.takeWord("lines") && takeSpan(into, lineCount);
        }

        private boolean takeSpan(Silence into, int lineCount) {
            int first = tokens.takeNumber(0, lineCount - 1);
            if (first == NONE || !tokens.takeWord("to")) {
                return false;
            }
            return setLines(into, first, tokens.takeNumber(first, lineCount - 1));
        }

        private static boolean setLines(Silence into, int first, int last) {
            if (first == NONE || last == NONE) {
                return false;
            }
            for (int i = first; i <= last; i++) {
                into.lines |= 1L << i;
            }
            return true;
        }

        private boolean takeKind(Silence into) {
            if (!tokens.takeWord("kind")) {
                return true;
            }
            into.kind = tokens.takeNumber(0, KINDS - 1);
            return into.kind != NONE;
        }

        private boolean takeUntil(Silence into, int nowBuild) {
            if (!tokens.takeWord("until")) {
                return true;
            }
            into.until = tokens.takeNumber(Math.max(nowBuild, 0), BUILDS_MOST - 1);
            return into.until != NONE;
        }

        private boolean takeReason(Silence into) {
            return !tokens.takeWord("because") || tokens.takeQuoted(into.words);
        }
    }

    /** A copy of THE TEXT as TOKENS, of which the first ones are taken, and one is next. */
    private static final class Tokens {
        static final int END = 0, WORD = 1, NUMBER = 2, QUOTED = 3, SEMICOLON = 4, NO_TOKEN = 5;
        private static final int DIGITS_MOST = 6;

        private final Row text = new Row(TEXT_MOST);
        private final int[] sorts = new int[TEXT_MOST + 1];
        private final int[] starts = new int[TEXT_MOST + 1];
        private final int[] ends = new int[TEXT_MOST + 1];
        private int size;
        private int next;

        /** Ends with what is no TOKEN, too: nothing behind it can matter. */
        void split(Row from) {
            text.clear();
            text.addPart(from, 0, from.size());
            size = 0;
            next = 0;
            int start = 0;
            for (int i = 0; i <= TEXT_MOST; i++) {
                start = endOfRun(start, ' ', ' ');
                int sort = sortAt(start);
                int end = endAt(start, sort);
                if (sort == NUMBER && end - start > DIGITS_MOST || end == NONE) {
                    sort = NO_TOKEN;
                }
                sorts[i] = sort;
                starts[i] = start;
                ends[i] = end;
                size = i + 1;
                if (sort == END || sort == NO_TOKEN) {
                    break;
                }
                start = end;
            }
        }

        private int sortAt(int start) {
            int first = text.at(start);
            if (isLetter(first)) {
                return WORD;
            }
            if (isDigit(first)) {
                return NUMBER;
            }
            switch (first) {
                case NONE: return END;
                case ';': return SEMICOLON;
                case QUOTE: return QUOTED;
                default: return NO_TOKEN;
            }
        }

        private int endAt(int start, int sort) {
            switch (sort) {
                case WORD: return endOfRun(start, 'a', 'z');
                case NUMBER: return endOfRun(start, '0', '9');
                case QUOTED: return endOfQuoted(start);
                default: return start + 1;
            }
        }

        private int endOfRun(int start, int least, int most) {
            int i = start;
            while (i < text.size() && text.at(i) >= least && text.at(i) <= most) {
                i++;
            }
            return i;
        }

        /** NONE, if it does not end, or not soon enough. */
        private int endOfQuoted(int start) {
            int i = start + 1;
            while (i <= start + REASON_MOST && isQuotable(text.at(i))) {
                i++;
            }
            return text.at(i) == QUOTE ? i + 1 : NONE;
        }

        static boolean isLetter(int b) {
            return b >= 'a' && b <= 'z';
        }

        static boolean isDigit(int b) {
            return b >= '0' && b <= '9';
        }

        private static boolean isQuotable(int b) {
            return b >= 32 && b <= 126 && b != QUOTE;
        }

        boolean standsAt(int sort) {
            return sorts[next] == sort;
        }

        int start() {
            return starts[next];
        }

        private void advance() {
            if (next < size - 1) {
                next++;
            }
        }

        boolean takeSemicolon() {
            if (!standsAt(SEMICOLON)) {
                return false;
            }
            advance();
            return true;
        }

        boolean takeWord(String word) {
            int start = starts[next];
            if (!standsAt(WORD) || ends[next] - start != word.length()) {
                return false;
            }
            for (int i = 0; i < word.length(); i++) {
                if (text.at(start + i) != word.charAt(i)) {
                    return false;
                }
            }
            advance();
            return true;
        }

        /** NONE, if there is no NUMBER from least to most. */
        int takeNumber(int least, int most) {
            if (!standsAt(NUMBER)) {
                return NONE;
            }
            int value = 0;
            for (int i = starts[next]; i < ends[next]; i++) {
                value = value * 10 + text.at(i) - '0';
            }
            if (value < least || value > most) {
                return NONE;
            }
            advance();
            return value;
        }

        boolean takeQuoted(Row into) {
            if (!standsAt(QUOTED)) {
                return false;
            }
            // without the quotes
            into.addPart(text, starts[next] + 1, ends[next] - starts[next] - 2);
            advance();
            return true;
        }
    }

    /** A PATH or a PATTERN: its bytes, and where its PARTS begin. */
    private static final class Parts {
        private final Row bytes = new Row(PATH_MOST);
        private final int[] starts = new int[PATH_MOST + 1];
        private int parts;

        /** How many bytes a text has that is a PATH (or a PATTERN); else the FAULT. */
        static int check(Row text, boolean isPattern) {
            int inPart = 0;
            boolean isDouble = false;
            for (int i = 0; i < text.size(); i++) {
                int b = text.at(i);
                boolean isSlash = b == '/';
                boolean isSecond = b == '*' && inPart > 0 && text.at(i - 1) == '*';
                boolean stands = isSlash ? inPart > 0 : !isDouble && isPartByte(b, isPattern);
                if (i >= PATH_MOST || !stands || isSecond && inPart > 1) {
                    return FAULT - i;
                }
                isDouble = isSecond;
                inPart = isSlash ? 0 : inPart + 1;
            }
            boolean isEmptyPath = !isPattern && text.size() == 0;
            return inPart > 0 || isEmptyPath ? text.size() : FAULT - text.size();
        }

        private static boolean isPartByte(int b, boolean isPattern) {
            return Tokens.isLetter(b) || b == '.' || b == '_' || isPattern && b == '*';
        }

        void set(Row text) {
            bytes.clear();
            bytes.addPart(text, 0, text.size());
            parts = 0;
            for (int i = 0; i < bytes.size(); i++) {
                if (i == 0 || bytes.at(i - 1) == '/') {
                    starts[parts] = i;
                    parts++;
                }
            }
        }

        private int endOf(int part) {
            return part + 1 < parts ? starts[part + 1] - 1 : bytes.size();
        }

        private boolean isDoubleStar(int part) {
            int first = starts[part];
            return endOf(part) - first == 2 && bytes.at(first) == '*' && bytes.at(first + 1) == '*';
        }

        /** Bit j of reached: the PARTS so far fit the first j PARTS of the PATH. */
        boolean fits(Parts path) {
            int reached = 1;
            for (int i = 0; i < parts; i++) {
                reached = isDoubleStar(i) ? fromLowest(reached, path.parts) : stepped(reached, i, path);
            }
            return (reached >>> path.parts & 1) != 0;
        }

        private int stepped(int reached, int part, Parts path) {
            int next = 0;
            for (int j = 0; j < path.parts; j++) {
                if ((reached >>> j & 1) != 0 && partFits(part, path, j)) {
                    next |= 1 << (j + 1);
                }
            }
            return next;
        }

        /** As fits(), with bytes in the place of PARTS. */
        private boolean partFits(int part, Parts path, int other) {
            int first = path.starts[other];
            int length = path.endOf(other) - first;
            int reached = 1;
            for (int i = starts[part]; i < endOf(part); i++) {
                int b = bytes.at(i);
                int next = 0;
                for (int j = 0; j < length; j++) {
                    if ((reached >>> j & 1) != 0 && path.bytes.at(first + j) == b) {
                        next |= 1 << (j + 1);
                    }
                }
                reached = b == '*' ? fromLowest(reached, length) : next;
            }
            return (reached >>> length & 1) != 0;
        }

        /** All bits from the lowest one that is set up to bit last. */
        private static int fromLowest(int reached, int last) {
            return (reached | -reached) & ((1 << (last + 1)) - 1);
        }
    }

    /** Writes OUT, and reads a list that is like it. */
    private static final class Lists {
        private static final String BEHIND = "@ /;";
        private static final int FIELDS = 4, DIGITS_MOST = 4;

        private final int[] values = new int[FIELDS];
        private int place;

        void write(Row list, Alarms alarms, Ranks order) {
            list.clear();
            for (int k = 0; k < order.size; k++) {
                int a = order.row[k];
                writeNumber(list, alarms.kind[a], 0);
                writeNumber(list, alarms.line[a], 1);
                writeNumber(list, alarms.p[a], 2);
                writeNumber(list, alarms.q[a], 3);
            }
        }

        private static void writeNumber(Row list, int value, int field) {
            for (int unit = 1000; unit > 0; unit /= 10) {
                if (value >= unit || unit == 1) {
                    list.add('0' + value / unit % 10);
                }
            }
            list.add(BEHIND.charAt(field));
        }

        int countTold(Row text, Alarms alarms) {
            int told = 0;
            place = 0;
            for (int i = 0; i < TEXT_MOST && place < text.size(); i++) {
                if (!readOne(text)) {
                    return FAULT - place;
                }
                if (alarms.isToldSo(values[1], values[0], values[2], values[3])) {
                    told++;
                }
            }
            return told;
        }

        /** Where it answers false, place is that of the byte that can't stand. */
        private boolean readOne(Row text) {
            for (int field = 0; field < FIELDS; field++) {
                if (!readNumber(text, field) || text.at(place) != BEHIND.charAt(field)) {
                    return false;
                }
                place++;
            }
            return true;
        }

        private boolean readNumber(Row text, int field) {
            int first = text.at(place);
            if (!Tokens.isDigit(first)) {
                return false;
            }
            int most = first == '0' ? 1 : DIGITS_MOST;
            int value = 0;
            for (int i = 0; i < most && Tokens.isDigit(text.at(place)); i++) {
                value = value * 10 + text.at(place) - '0';
                place++;
            }
            values[field] = value;
            return true;
        }
    }
}
