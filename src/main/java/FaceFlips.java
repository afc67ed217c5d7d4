/**
 * Bodies glued by faces, and the flips that take some of them for others on the same points.
 * The document says what each call answers; the words it writes in capitals mean the same here.
 */
public final class FaceFlips {
    public static final int NONE = -1, BAD = -2, STATE = -3, FULL = -4, NOT = -5;
    public static final long NO = Long.MIN_VALUE;

    private static final int NOTHING = -11, PLACE = -13, SIZE = -14;
    private static final int POINTS = 8;
    private static final int SETS = 256;
    private static final int LAST_KIND = 5;
    private static final int MOST_BODIES = 70;
    private static final int MOST_STEPS = 8;
    private static final int MOST_KEPT = 4;
    private static final int MOST_CHAIN = 3;
    private static final int MOST_WALK = 20;
    private static final int LISTS = 4;
    private static final int MOST_PLACES = 40;
    private static final int MOST_SIGNS = 120;
    private static final int MOST_WORDS = 12;
    private static final int MOST_PAPER = 349;
    private static final int EULER_ABOVE = 100;
    private static final int FAULT_BELOW = -100;
    private static final int LAST_SIGN = 127;
    private static final int WITHOUT_SIGN = 0x7fffffff;

    private static final int THREE = 6, FOUR = 7, FLIP = 8, KEEP = 9, TAKE = 10, BODY = 11, WORDS = 12;
    private static final int[] FEWEST_DIGITS = {0, 0, 0, 0, 0, 0, 0, 0, 1, 0, 1, 1};
    private static final int[] MOST_DIGITS = {0, 0, 0, 0, 0, 0, 0, 0, 2, 0, 1, 8};

    private final Heap now = new Heap();
    private final Heap thought = new Heap();
    private final int[] found = new int[SETS];
    private final Past past = new Past();
    private final Shelf shelf = new Shelf();
    private final Heap oldHeap = new Heap();
    private int oldUsed;
    private boolean imaged;
    private final Ways ways = new Ways();
    private final Search search = new Search();
    private final Names names = new Names();
    private final Rows rows = new Rows();
    private final Text text = new Text();
    private final byte[] spelled = new byte[MOST_PAPER];
    private int spelledSize;

    public FaceFlips() {
    }

    // ---- THE HEAP, told and asked

    public int bodies(int k) {
        if (k != 3 && k != 4) {
            return BAD;
        }
        int before = now.k;
        now.empty(k);
        past.forget();
        return before;
    }

    public int make(int kind) {
        if (kind < 0 || kind > LAST_KIND) {
            return NONE;
        }
        past.note(now);
        now.become(kind);
        return now.total();
    }

    public int body(int set) {
        if (set < 0 || set >= SETS || Integer.bitCount(set) != now.k) {
            return NONE;
        }
        past.note(now);
        now.toggle(set);
        return now.total();
    }

    public int bodyOf(int i) {
        if (i < 0) {
            return NONE;
        }
        return now.setAt(now.k, 1, i);
    }

    public int heap(int what) {
        switch (what) {
            case 0:
                return now.k;
            case 1:
                return now.total();
            case 2:
                return now.there();
            case 3:
                return now.walls();
            case 4:
                return now.isRight() ? 1 : 0;
            case 5:
                return EULER_ABOVE + now.euler();
            case 6:
                return ways.parts(now);
            case 7:
                return ways.twoSided(now) ? 1 : 0;
            default:
                return NONE;
        }
    }

    public int faces(int j) {
        if (j < 1 || j > 4) {
            return BAD;
        }
        return now.facesOf(j);
    }

    public int face(int set, int what) {
        if (!isSet(set)) {
            return NONE;
        }
        switch (what) {
            case 0:
                return now.holders(set) > 0 ? 1 : 0;
            case 1:
                return now.holders(set);
            case 2:
                return now.linkSets(set);
            case 3:
                return now.linkPoints(set);
            default:
                return NONE;
        }
    }

    public int wall(int i) {
        if (i < 0) {
            return NONE;
        }
        return now.setAt(now.k - 1, 1, i);
    }

    public int apart(int one, int other) {
        int total = now.total();
        if (one < 0 || one >= total || other < 0 || other >= total) {
            return NONE;
        }
        return ways.between(now, one, other);
    }

    public int shelled(int list) {
        int state = rows.state(list);
        if (state < 0) {
            return state;
        }
        ways.load(now);
        for (int place = 0; place < rows.sizeOf(list); place++) {
            if (!ways.fits(rows, list, place)) {
                return place;
            }
        }
        return NOT;
    }

    public int cone(int p) {
        if (p < 0 || p >= POINTS) {
            return NONE;
        }
        int point = 1 << p;
        if (now.holders(point) > 0) {
            return STATE;
        }
        past.note(now);
        thought.copyOf(now);
        for (int set = 1; set < SETS; set++) {
            if (thought.isWall(set)) {
                now.toggle(set | point);
            }
        }
        return now.total();
    }

    // ---- FLIPS

    public int flips(int sort) {
        if (sort < 0 || sort > now.k) {
            return BAD;
        }
        int many = now.gather(found);
        if (sort == 0) {
            return many;
        }
        int fitting = 0;
        for (int i = 0; i < many; i++) {
            if (now.holders(found[i]) == sort) {
                fitting++;
            }
        }
        return fitting;
    }

    public int flipOf(int i, int what) {
        int many = now.gather(found);
        if (i < 0 || i >= many) {
            return NONE;
        }
        switch (what) {
            case 0:
                return found[i];
            case 1:
                return now.partner(found[i]);
            case 2:
                return now.holders(found[i]);
            default:
                return NONE;
        }
    }

    public int number(int a) {
        if (!isSet(a)) {
            return NONE;
        }
        return now.numberOf(a);
    }

    public int flip(int i) {
        int many = now.gather(found);
        if (i < 0 || i >= many) {
            return NONE;
        }
        past.note(now);
        now.flipAt(found[i]);
        return now.total();
    }

    public int other(int a) {
        if (!isSet(a)) {
            return NONE;
        }
        int b = now.partner(a);
        if (b == 0) {
            return NOT;
        }
        thought.copyOf(now);
        thought.flipAt(a);
        return thought.partner(b) == a ? thought.numberOf(b) : NOT;
    }

    public int plan(int list, int what) {
        if (!rows.isList(list) || what < 0 || what > 2) {
            return NONE;
        }
        if (rows.state(list) < 0) {
            return NOTHING;
        }
        thought.copyOf(now);
        int flipped = 0;
        for (int place = 0; place < rows.sizeOf(list); place++) {
            int i = rows.at(list, place);
            int many = thought.gather(found);
            if (i < 0 || i >= many) {
                break;
            }
            thought.flipAt(found[i]);
            flipped++;
        }
        if (what == 0) {
            return flipped;
        }
        return what == 1 ? thought.total() : EULER_ABOVE + thought.euler();
    }

    public int fewer(int what) {
        if (what < 0 || what > 1) {
            return NONE;
        }
        thought.copyOf(now);
        int flipped = 0;
        for (int n = 0; n < MOST_BODIES; n++) {
            int a = thought.firstFewer();
            if (a == 0) {
                break;
            }
            thought.flipAt(a);
            flipped++;
        }
        return what == 0 ? flipped : thought.total();
    }

    public int walk(int n, int z, int what) {
        if (n < 0 || n > MOST_WALK) {
            return BAD;
        }
        if (what < 0 || what > 2) {
            return NONE;
        }
        thought.copyOf(now);
        int seed = z;
        for (int step = 0; step < n; step++) {
            int many = thought.gather(found);
            if (many <= 0) {
                break;
            }
            seed = seed * 1103515245 + 12345;
            int drawn = (seed & WITHOUT_SIGN) / 65536 % many;
            thought.flipAt(found[drawn]);
        }
        if (what == 0) {
            return thought.total();
        }
        return what == 1 ? thought.there() : EULER_ABOVE + thought.euler();
    }

    // ---- steps TAKEN BACK, KEPT heaps, THE IMAGE

    public int back() {
        if (past.known == 0) {
            return STATE;
        }
        past.restore(now);
        return now.total();
    }

    public int keep() {
        return shelf.add(now) ? shelf.used - 1 : FULL;
    }

    public int take(int kept) {
        Heap heap = shelf.at(kept);
        if (heap == null) {
            return NONE;
        }
        now.copyOf(heap);
        past.forget();
        return now.total();
    }

    public int kept(int kept, int what) {
        Heap heap = shelf.at(kept);
        if (heap == null) {
            return NONE;
        }
        switch (what) {
            case 0:
                return heap.k;
            case 1:
                return heap.total();
            case 2:
                return EULER_ABOVE + heap.euler();
            case 3:
                return heap.walls();
            default:
                return NONE;
        }
    }

    public int chain(int kept, int least, int i) {
        Heap goal = shelf.at(kept);
        if (goal == null || i < -1) {
            return NONE;
        }
        if (least != 1 && least != 2) {
            return BAD;
        }
        if (goal.k != now.k) {
            return STATE;
        }
        int length = search.fewest(now, goal, least);
        if (i == -1) {
            return length;
        }
        return i < length ? search.path[i] : NOT;
    }

    public int alike(int one, int other) {
        Heap first = shelf.at(one);
        Heap second = shelf.at(other);
        if (first == null || second == null) {
            return NONE;
        }
        return names.fit(first, second) ? 1 : 0;
    }

    public int common(int one, int other) {
        Heap first = shelf.at(one);
        Heap second = shelf.at(other);
        if (first == null || second == null) {
            return NONE;
        }
        int both = 0;
        for (int set = 1; set < SETS; set++) {
            if (first.isBody(set) && second.isBody(set)) {
                both++;
            }
        }
        return both;
    }

    public int image() {
        oldHeap.copyOf(now);
        // A KEPT heap stays as it is, and others come behind it: how many there were tells which to leave.
        oldUsed = shelf.used;
        imaged = true;
        return now.total();
    }

    public int undo() {
        if (!imaged) {
            return STATE;
        }
        now.copyOf(oldHeap);
        shelf.used = oldUsed;
        past.forget();
        return now.total();
    }

    // ---- THE TEXT and THE PAPER

    public int feed(int sign) {
        if (sign < 0 || sign > LAST_SIGN) {
            return BAD;
        }
        return text.add(sign) ? text.size : FULL;
    }

    public int read() {
        int fault = text.split();
        text.size = 0;
        if (fault >= 0) {
            return FAULT_BELOW - fault;
        }
        int obeyed = 0;
        for (int n = 0; n < text.words; n++) {
            if (obey(n) >= 0) {
                obeyed++;
            }
        }
        past.forget();
        return obeyed;
    }

    public int spell() {
        spelledSize = 0;
        for (int set = 1; set < SETS; set++) {
            if (now.isBody(set)) {
                if (spelledSize > 0) {
                    write(' ');
                }
                writePoints(set);
            }
        }
        return spelledSize;
    }

    public int paper(int i) {
        if (i < 0 || i >= spelledSize) {
            return NONE;
        }
        return spelled[i];
    }

    // ---- LISTS

    public int judge(int list) {
        int state = rows.state(list);
        if (state < 0) {
            return state;
        }
        int size = rows.sizeOf(list);
        int place = 0;
        for (int set = 1; set < SETS; set++) {
            if (now.isBody(set)) {
                if (place >= size || rows.at(list, place) != set) {
                    return place;
                }
                place++;
            }
        }
        return place < size ? place : NOT;
    }

    public int list(int list, int n) {
        if (!rows.isList(list)) {
            return NONE;
        }
        if (n > MOST_PLACES) {
            return BAD;
        }
        if (n < 0) {
            return SIZE;
        }
        rows.start(list, n);
        return 1;
    }

    public int put(int list, int i, int v) {
        int state = rows.state(list);
        if (state < 0) {
            return state;
        }
        if (i < 0 || i >= rows.sizeOf(list)) {
            return PLACE;
        }
        rows.set(list, i, v);
        return 1;
    }

    public long get(int list, int i) {
        if (rows.state(list) < 0 || i < 0 || i >= rows.sizeOf(list)) {
            return NO;
        }
        return rows.at(list, i);
    }

    public int copy(int list, int i, int other, int j, int n) {
        if (!rows.isList(list) || !rows.isList(other)) {
            return NONE;
        }
        if (rows.state(list) < 0 || rows.state(other) < 0) {
            return NOTHING;
        }
        if (n < 0 || i < 0 || j < 0) {
            return PLACE;
        }
        if (i > rows.sizeOf(list) - n || j > rows.sizeOf(other) - n) {
            return PLACE;
        }
        rows.move(list, i, other, j, n);
        return n;
    }

    public int count(int what) {
        switch (what) {
            case 0:
                return now.total();
            case 1:
                return shelf.used;
            case 2:
                return past.known;
            case 3:
                return text.size;
            case 4:
                return spelledSize;
            default:
                return BAD;
        }
    }

    private static boolean isSet(int set) {
        return set > 0 && set < SETS;
    }

    /** Word n of THE TEXT, done as the call that it stands for; below 0: it was refused. */
    private int obey(int n) {
        int word = text.word[n];
        if (word <= LAST_KIND) {
            return make(word);
        }
        switch (word) {
            case THREE:
                return bodies(3);
            case FOUR:
                return bodies(4);
            case FLIP:
                return flip(text.value(n));
            case KEEP:
                return keep();
            case TAKE:
                return take(text.value(n));
            case BODY:
                return body(text.pointSet(n));
            default:
                return NONE;
        }
    }

    private void writePoints(int set) {
        for (int p = 0; p < POINTS; p++) {
            if ((set >> p & 1) == 1) {
                write('0' + p);
            }
        }
    }

    private void write(int sign) {
        if (spelledSize < MOST_PAPER) {
            spelled[spelledSize] = (byte) sign;
            spelledSize++;
        }
    }

    /** Bodies of k points each. */
    private static final class Heap {
        private int k;
        // How many bodies have all points of a set: all else is read off this row, so that a flip costs little.
        private final int[] within;

        Heap() {
            k = 3;
            within = new int[SETS];
        }

        void empty(int size) {
            k = size;
            for (int set = 0; set < SETS; set++) {
                within[set] = 0;
            }
        }

        void copyOf(Heap heap) {
            k = heap.k;
            System.arraycopy(heap.within, 0, within, 0, SETS);
        }

        int total() {
            return within[0];
        }

        int holders(int set) {
            return within[set];
        }

        boolean isBody(int set) {
            return within[set] > 0 && Integer.bitCount(set) == k;
        }

        boolean isWall(int set) {
            return within[set] == 1 && Integer.bitCount(set) == k - 1;
        }

        void toggle(int body) {
            int more = within[body] > 0 ? -1 : 1;
            int subsets = 1 << k;
            int subset = body;
            for (int n = 0; n < subsets; n++) {
                within[subset] += more;
                subset = (subset - 1) & body;
            }
        }

        /** Each set of all these points but one is a body then, or, if it was one, no more. */
        void toggleAround(int points) {
            for (int p = 0; p < POINTS; p++) {
                if ((points >> p & 1) == 1) {
                    toggle(points & ~(1 << p));
                }
            }
        }

        void become(int kind) {
            empty(k);
            switch (kind) {
                case 1:
                    toggle(arc(0));
                    break;
                case 2:
                    toggleAround((2 << k) - 1);
                    break;
                case 3:
                    addArcs(POINTS - k + 1);
                    break;
                case 4:
                    addArcs(POINTS);
                    break;
                case 5:
                    addCross();
                    break;
                default:
                    break;
            }
        }

        private int arc(int first) {
            int shifted = ((1 << k) - 1) << first;
            return (shifted | shifted >> POINTS) & (SETS - 1);
        }

        private void addArcs(int many) {
            for (int i = 0; i < many; i++) {
                toggle(arc(i));
            }
        }

        private void addCross() {
            for (int choice = 0; choice < 1 << k; choice++) {
                int set = 0;
                for (int pair = 0; pair < k; pair++) {
                    set |= 1 << (2 * pair + (choice >> pair & 1));
                }
                toggle(set);
            }
        }

        /** The set number i of so many points that lies in so many bodies, the least first. */
        int setAt(int points, int holders, int i) {
            int left = i;
            for (int set = 1; set < SETS; set++) {
                if (within[set] == holders && Integer.bitCount(set) == points) {
                    if (left == 0) {
                        return set;
                    }
                    left--;
                }
            }
            return NOT;
        }

        int there() {
            return linkPoints(0);
        }

        int linkPoints(int set) {
            int points = 0;
            for (int p = 0; p < POINTS; p++) {
                int point = 1 << p;
                if ((set & point) == 0 && within[set | point] > 0) {
                    points |= point;
                }
            }
            return points;
        }

        int linkSets(int set) {
            int sets = 0;
            for (int beside = 0; beside < SETS; beside++) {
                if ((set & beside) == 0 && within[set | beside] > 0) {
                    sets++;
                }
            }
            return sets;
        }

        int facesOf(int points) {
            int many = 0;
            for (int set = 1; set < SETS; set++) {
                if (within[set] > 0 && Integer.bitCount(set) == points) {
                    many++;
                }
            }
            return many;
        }

        int euler() {
            return facesOf(1) - facesOf(2) + facesOf(3) - facesOf(4);
        }

        int walls() {
            int many = 0;
            for (int set = 1; set < SETS; set++) {
                if (isWall(set)) {
                    many++;
                }
            }
            return many;
        }

        boolean isRight() {
            for (int set = 1; set < SETS; set++) {
                if (within[set] > 2 && Integer.bitCount(set) == k - 1) {
                    return false;
                }
            }
            return true;
        }

        /**
         * The set b of the FLIP of a, 0 if there is none. Counting is enough: so many bodies as b has points,
         * each of them all of a and all points of b but one, are all that there can be.
         */
        int partner(int a) {
            int due = k + 1 - Integer.bitCount(a);
            if (a == 0 || within[a] == 0 || within[a] != due) {
                return 0;
            }
            if (due == 1) {
                int free = ~there() & (SETS - 1);
                return free & -free;
            }
            int b = linkPoints(a);
            return Integer.bitCount(b) == due && within[b] == 0 ? b : 0;
        }

        /** The sets a of all FLIPS, in their order; answers how many. */
        int gather(int[] sets) {
            int many = 0;
            for (int a = 1; a < SETS; a++) {
                if (partner(a) != 0 && many < sets.length) {
                    sets[many] = a;
                    many++;
                }
            }
            return many;
        }

        int numberOf(int a) {
            if (partner(a) == 0) {
                return NOT;
            }
            int number = 0;
            for (int less = 1; less < a; less++) {
                if (partner(less) != 0) {
                    number++;
                }
            }
            return number;
        }

        void flipAt(int a) {
            int b = partner(a);
            if (b != 0) {
                toggleAround(a | b);
            }
        }

        /** The set a of the first FLIP by which there are fewer bodies: as many come as a has points; 0: none. */
        int firstFewer() {
            for (int a = 1; a < SETS; a++) {
                if (within[a] > Integer.bitCount(a) && partner(a) != 0) {
                    return a;
                }
            }
            return 0;
        }
    }

    /** The heaps before the latest steps, so that these can be TAKEN BACK. */
    private static final class Past {
        private final Heap[] steps;
        private int next;
        private int known;

        Past() {
            steps = new Heap[MOST_STEPS];
            for (int i = 0; i < MOST_STEPS; i++) {
                steps[i] = new Heap();
            }
        }

        void note(Heap heap) {
            steps[next].copyOf(heap);
            next = (next + 1) % MOST_STEPS;
            known = Math.min(known + 1, MOST_STEPS);
        }

        void restore(Heap heap) {
            if (known > 0) {
                next = (next + MOST_STEPS - 1) % MOST_STEPS;
                known--;
                heap.copyOf(steps[next]);
            }
        }

        void forget() {
            known = 0;
        }
    }

    /** KEPT heaps. */
    private static final class Shelf {
        private final Heap[] heaps;
        private int used;

        Shelf() {
            heaps = new Heap[MOST_KEPT];
            for (int i = 0; i < MOST_KEPT; i++) {
                heaps[i] = new Heap();
            }
        }

        boolean add(Heap heap) {
            if (used >= MOST_KEPT) {
                return false;
            }
            heaps[used].copyOf(heap);
            used++;
            return true;
        }

        /** Null: no heap is kept under this number. */
        Heap at(int i) {
            return i >= 0 && i < used ? heaps[i] : null;
        }
    }

    /** The ways from body to body, each step to one BESIDE. */
    private static final class Ways {
        private final int[] bodies = new int[MOST_BODIES];
        private final int[] steps = new int[MOST_BODIES];
        private final int[] sign = new int[MOST_BODIES];
        private final int[] queue = new int[MOST_BODIES];
        private int size;
        private int k;

        void load(Heap heap) {
            k = heap.k;
            size = 0;
            for (int set = 1; set < SETS; set++) {
                if (heap.isBody(set) && size < MOST_BODIES) {
                    bodies[size] = set;
                    steps[size] = NOT;
                    size++;
                }
            }
        }

        private int bodyAt(int number) {
            return number >= 0 && number < size ? bodies[number] : 0;
        }

        private boolean beside(int one, int other) {
            return Integer.bitCount(bodies[one] & bodies[other]) == k - 1;
        }

        private boolean sameSign(int one, int other) {
            int x = bodies[one] & ~bodies[other];
            int y = bodies[other] & ~bodies[one];
            int less = Integer.bitCount(bodies[one] & (x - 1)) + Integer.bitCount(bodies[other] & (y - 1));
            return less % 2 == 1;
        }

        /** Gives steps and signs to all that can be come to from one body. */
        private void spread(int from) {
            steps[from] = 0;
            sign[from] = 0;
            queue[0] = from;
            int end = 1;
            for (int at = 0; at < size && at < end; at++) {
                int one = queue[at];
                for (int other = 0; other < size; other++) {
                    if (steps[other] < 0 && beside(one, other) && end < MOST_BODIES) {
                        steps[other] = steps[one] + 1;
                        sign[other] = sameSign(one, other) ? sign[one] : 1 - sign[one];
                        queue[end] = other;
                        end++;
                    }
                }
            }
        }

        int parts(Heap heap) {
            load(heap);
            int many = 0;
            for (int from = 0; from < size; from++) {
                if (steps[from] < 0) {
                    spread(from);
                    many++;
                }
            }
            return many;
        }

        boolean twoSided(Heap heap) {
            parts(heap);
            for (int one = 0; one < size; one++) {
                for (int other = one + 1; other < size; other++) {
                    if (beside(one, other) && sameSign(one, other) != (sign[one] == sign[other])) {
                        return false;
                    }
                }
            }
            return true;
        }

        int between(Heap heap, int one, int other) {
            load(heap);
            if (one >= size || other >= size) {
                return NOT;
            }
            spread(one);
            return steps[other];
        }

        /** Whether a place of a list tells a body that is none of those ahead and fits them. */
        boolean fits(Rows rows, int list, int place) {
            int body = bodyAt(rows.at(list, place));
            if (body == 0) {
                return false;
            }
            int leftOut = 0;
            for (int ahead = 0; ahead < place; ahead++) {
                int alone = body & ~bodyAt(rows.at(list, ahead));
                if (Integer.bitCount(alone) == 1) {
                    leftOut |= alone;
                }
            }
            // What is shared lies within all points but one exactly if that one point is not shared.
            for (int ahead = 0; ahead < place; ahead++) {
                int alone = body & ~bodyAt(rows.at(list, ahead));
                if ((alone & leftOut) == 0) {
                    return false;
                }
            }
            return true;
        }
    }

    /** The search for a CHAIN. */
    private static final class Search {
        private final Heap heap = new Heap();
        private final int[] path = new int[MOST_CHAIN];
        private Heap goal;
        private int least;

        /** How many flips the chain has, its numbers in path; NOT: there is none. */
        int fewest(Heap from, Heap to, int leastSort) {
            heap.copyOf(from);
            goal = to;
            least = leastSort;
            int gap = gap();
            for (int length = 0; length <= MOST_CHAIN; length++) {
                if (reach(this, length, 0, gap)) {
                    return length;
                }
            }
            return NOT;
        }

        private int gap() {
            int unlike = 0;
            for (int set = 1; set < SETS; set++) {
                if (heap.isBody(set) != goal.isBody(set)) {
                    unlike++;
                }
            }
            return unlike;
        }

        /** How many more sets are a body of just one of both heaps, when a flip on these points is done. */
        private int widened(int points) {
            int more = 0;
            for (int p = 0; p < POINTS; p++) {
                if ((points >> p & 1) == 1) {
                    int set = points & ~(1 << p);
                    more += heap.within[set] == goal.within[set] ? 1 : -1;
                }
            }
            return more;
        }

        /**
         * Whether the goal is reached in just so many flips behind the done ones. A flip changes k plus 1 bodies,
         * so that a wider gap than the flips left can close need not be looked into.
         */
        private static boolean reach(Search s, int length, int done, int gap) {
            int left = length - done;
            if (left <= 0 || done >= MOST_CHAIN) {
                return gap == 0;
            }
            if (gap > left * (s.heap.k + 1)) {
                return false;
            }
            int number = 0;
            for (int a = 1; a < SETS; a++) {
                int b = s.heap.partner(a);
                if (b != 0) {
                    int points = a | b;
                    int then = gap + s.widened(points);
                    if (Integer.bitCount(b) >= s.least && then <= (left - 1) * (s.heap.k + 1)) {
                        s.path[done] = number;
                        s.heap.toggleAround(points);
                        if (reach(s, length, done + 1, then)) {
                            return true;
                        }
                        s.heap.toggleAround(points);
                    }
                    number++;
                }
            }
            return false;
        }
    }

    /** The search for other names of POINTS by which one heap is the other. */
    private static final class Names {
        private final int[] renamed = new int[SETS];
        private Heap one;
        private Heap other;

        boolean fit(Heap first, Heap second) {
            if (first.k != second.k || first.total() != second.total()) {
                return false;
            }
            one = first;
            other = second;
            renamed[0] = 0;
            return name(this, 0);
        }

        /** Whether point p and all behind it can be named, those ahead being named. */
        private static boolean name(Names n, int p) {
            if (p >= POINTS) {
                return true;
            }
            int named = n.renamed[(1 << p) - 1];
            for (int q = 0; q < POINTS; q++) {
                if ((named >> q & 1) == 0 && n.agrees(p, 1 << q) && name(n, p + 1)) {
                    return true;
                }
            }
            return false;
        }

        /** Names point p, and looks whether all sets of it and of points ahead lie in as many bodies as before. */
        private boolean agrees(int p, int point) {
            int ahead = 1 << p;
            for (int set = 0; set < ahead; set++) {
                int then = renamed[set] | point;
                if (one.within[set | ahead] != other.within[then]) {
                    return false;
                }
                renamed[set | ahead] = then;
            }
            return true;
        }
    }

    /** LISTS. */
    private static final class Rows {
        private final int[] cells = new int[LISTS * MOST_PLACES];
        private final int[] sizes = new int[LISTS];

        Rows() {
            for (int list = 0; list < LISTS; list++) {
                sizes[list] = NOTHING;
            }
        }

        boolean isList(int list) {
            return list >= 0 && list < LISTS;
        }

        /** 0, or the answer of a call that cannot use the list: NONE, NOTHING. */
        int state(int list) {
            if (!isList(list)) {
                return NONE;
            }
            return Math.min(sizes[list], 0);
        }

        int sizeOf(int list) {
            return sizes[list];
        }

        int at(int list, int place) {
            return cells[list * MOST_PLACES + place];
        }

        void set(int list, int place, int value) {
            cells[list * MOST_PLACES + place] = value;
        }

        void start(int list, int size) {
            sizes[list] = size;
            for (int place = 0; place < size; place++) {
                set(list, place, 0);
            }
        }

        void move(int list, int i, int other, int j, int n) {
            System.arraycopy(cells, list * MOST_PLACES + i, cells, other * MOST_PLACES + j, n);
        }
    }

    /** THE TEXT and the words that it holds. */
    private static final class Text {
        private final byte[] signs = new byte[MOST_SIGNS];
        private int size;
        private final int[] word = new int[MOST_WORDS];
        private final int[] digits = new int[MOST_WORDS];
        private final int[] end = new int[MOST_WORDS];
        private int words;

        boolean add(int sign) {
            if (size >= MOST_SIGNS) {
                return false;
            }
            signs[size] = (byte) sign;
            size++;
            return true;
        }

        /** Finds the words: the place of the first FAULT, below 0 if there is none. */
        int split() {
            words = 0;
            int place = 0;
            for (int n = 0; n < MOST_WORDS; n++) {
                int letters = behind(place, 'a', 'z');
                int last = behind(letters, '0', '9');
                int named = wordAt(place, letters);
                if (named < 0 || last - letters < FEWEST_DIGITS[named] || last - letters > MOST_DIGITS[named]) {
                    return place;
                }
                word[n] = named;
                digits[n] = letters;
                end[n] = last;
                words++;
                if (last >= size) {
                    return NOT;
                }
                if (signs[last] != ' ') {
                    return last;
                }
                place = last + 1;
            }
            return place - 1;
        }

        /** The place behind all signs from one to another that stand from a place on. */
        private int behind(int place, int from, int to) {
            for (int at = place; at < size; at++) {
                if (signs[at] < from || signs[at] > to) {
                    return at;
                }
            }
            return size;
        }

        private int wordAt(int from, int to) {
            for (int named = 0; named < WORDS; named++) {
                if (stands(wordOf(named), from, to)) {
                    return named;
                }
            }
            return NONE;
        }

        private boolean stands(String letters, int from, int to) {
            if (letters.length() != to - from) {
                return false;
            }
            for (int i = 0; i < letters.length(); i++) {
                if (signs[from + i] != letters.charAt(i)) {
                    return false;
                }
            }
            return true;
        }

        // The first are the KINDS, by their numbers.
        private static String wordOf(int named) {
            switch (named) {
                case 0:
                    return "nothing";
                case 1:
                    return "ball";
                case 2:
                    return "sphere";
                case 3:
                    return "row";
                case 4:
                    return "round";
                case 5:
                    return "cross";
                case THREE:
                    return "three";
                case FOUR:
                    return "four";
                case FLIP:
                    return "flip";
                case KEEP:
                    return "keep";
                case TAKE:
                    return "take";
                default:
                    return "body";
            }
        }

        int value(int n) {
            int value = 0;
            for (int at = digits[n]; at < end[n]; at++) {
                value = 10 * value + signs[at] - '0';
            }
            return value;
        }

        /** The set of the points that the digits of a word tell; NONE: one is no point. */
        int pointSet(int n) {
            int set = 0;
            for (int at = digits[n]; at < end[n]; at++) {
                int p = signs[at] - '0';
                if (p >= POINTS) {
                    return NONE;
                }
                set |= 1 << p;
            }
            return set;
        }
    }
}
