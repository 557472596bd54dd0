import java.util.Arrays;

/**
 * A worm on the gold of towns: it feels by the dent what is lifted, unless as heavy a thing is laid there.
 * All that the document calls PLACES, PIECES, THE BAG, ACTS, NIGHTS, HEAPS, IMAGES and SHEETS lies in one object.
 * Rows are made once, in constructors, and used again: no call makes an object.
 */
public final class WormHeap {
    public static final int BAD = -1, NOT = -2, FULL = -3, NONE = -4, NULL = -11, CAST = -12, INDEX = -13, SIZE = -14;

    private static final int PLACES = 6, BAG = 6, EATEN = 7;
    private static final int PIECES = 12, NO_PIECE = 12;
    private static final int COIN = 0, CUP = 1, LEAD = 2, RUBY = 3;
    private static final int TOWNS = 4, NOBODY = 4, TOWN_SETS = 16;
    private static final int FIRST_SENSE = 3, MOST = 99;
    private static final int SHEETS = 4, ITEMS = 24, BYTES = 0, INTS = 1, LONGS = 2;
    private static final int DONE = 0, NO_FAULT = 0;

    private final Gold gold = new Gold();
    private final Gold kept = new Gold();
    private boolean hasImage;
    private final Thief thief = new Thief();
    private final Towns towns = new Towns();
    private final Tape tape = new Tape();
    private final HeapText heapText = new HeapText();
    private final NightText nightText = new NightText();
    private final Sheet[] sheets = new Sheet[SHEETS];

    public WormHeap() {
        for (int i = 0; i < sheets.length; i++) {
            sheets[i] = new Sheet();
        }
    }

    // ---- 1 pieces, places

    public int piece(int kind, int weight, int town, int place) {
        if (!isIn(kind, COIN, RUBY) || !isIn(weight, 1, MOST) || !isTown(town) || !isIn(place, 0, BAG)) {
            return BAD;
        }
        return gold.add(kind, weight, town, place);
    }

    public int told(int piece, int what) {
        if (!gold.isPiece(piece)) {
            return BAD;
        }
        switch (what) {
            case 0:
                return gold.kindOf(piece);
            case 1:
                return gold.weighs(piece);
            case 2:
                return gold.ownerOf(piece);
            case 3:
                return gold.placeOf(piece);
            case 4:
                return gold.offOf(piece);
            default:
                return BAD;
        }
    }

    public int of(int place, int what) {
        if (!isPlace(place)) {
            return BAD;
        }
        switch (what) {
            case 0:
                return gold.loadIn(place);
            case 1:
                return gold.piecesIn(place);
            case 2:
                return gold.senseOf(place);
            case 3:
                return gold.topOf(place);
            default:
                return BAD;
        }
    }

    public int sense(int place, int v) {
        if (!isPlace(place) || !isIn(v, 0, MOST)) {
            return BAD;
        }
        int before = gold.senseOf(place);
        gold.becomeFine(place, v);
        return before;
    }

    public int type(long w, int n) {
        return tape.append(w, n);
    }

    public int heap() {
        int read = heapText.read(tape);
        tape.empty();
        if (read > 0) {
            heapText.layOut(gold, read);
        }
        return read;
    }

    public int night() {
        int read = nightText.read(tape, gold.pieces());
        tape.empty();
        return read > 0 ? nightText.act(gold, read) : read;
    }

    public int count(int what) {
        switch (what) {
            case 0:
                return gold.pieces();
            case 1:
                return gold.piecesIn(BAG);
            case 2:
                return gold.piecesIn(EATEN);
            case 3:
                return gold.timesAwake();
            case 4:
                return gold.loadInPlaces();
            case 5:
                return gold.loadIn(BAG);
            default:
                return BAD;
        }
    }

    // ---- 2 acts

    public int lift(int place) {
        if (!isPlace(place)) {
            return BAD;
        }
        int lifted = gold.topOf(place);
        int answer = gold.tryAct(Act.code(Act.LIFT, place, 0));
        return answer == DONE ? lifted : answer;
    }

    public int lay(int piece, int place) {
        if (!gold.isPiece(piece) || !isPlace(place)) {
            return BAD;
        }
        int answer = gold.tryAct(Act.code(Act.LAY, place, piece));
        return answer == DONE ? gold.loadIn(place) : answer;
    }

    public int swap(int place, int piece) {
        if (!isPlace(place) || !gold.isPiece(piece)) {
            return BAD;
        }
        int lifted = gold.topOf(place);
        int answer = gold.tryAct(Act.code(Act.SWAP, place, piece));
        return answer == DONE ? lifted : answer;
    }

    public int push(int from, int to) {
        if (!isPlace(from) || !isPlace(to) || from == to) {
            return BAD;
        }
        int pushed = gold.topOf(from);
        int answer = gold.tryAct(Act.code(Act.PUSH, from, to));
        return answer == DONE ? pushed : answer;
    }

    public int turn() {
        gold.turnOver();
        return gold.piecesInPlaces();
    }

    public int had(int piece, int i) {
        if (!gold.isPiece(piece) || !isIn(i, -1, Thief.MOST_ACTS - 1)) {
            return BAD;
        }
        if (gold.placeOf(piece) == EATEN) {
            return NOT;
        }
        int acts = thief.fewestActs(gold, piece);
        if (acts < 0 || i >= acts) {
            return NONE;
        }
        return i < 0 ? acts : thief.codeAt(i);
    }

    public int under(int town) {
        return isTown(town) ? Towns.pairsUnder(gold, town) : BAD;
    }

    public int own() {
        return towns.fewestAstray(gold);
    }

    // ---- 3 what it feels

    public int odds(int place, int change, int n, int q, int part) {
        if (!isPlace(place) || !isIn(change, 0, MOST) || !isIn(n, 1, 6) || !isIn(q, 0, 8) || !isPart(part)) {
            return BAD;
        }
        int unfelt = gold.isAboveSense(place, change) ? 8 - q : 8;
        return partOf(power(unfelt, n), power(8, n), part);
    }

    public int share(int town, int set, int part) {
        if (!isTown(town) || !isIn(set, 0, TOWN_SETS - 1) || !isPart(part) || !holds(set, town)) {
            return BAD;
        }
        int common = gold.loadIn(BAG);
        for (int other = 0; other < TOWNS; other++) {
            if (holds(set, other)) {
                common -= gold.loadInBagOf(other);
            }
        }
        int sharers = Integer.bitCount(set);
        return partOf(gold.loadInBagOf(town) * sharers + common, sharers, part);
    }

    public int image() {
        kept.becomeLike(gold);
        hasImage = true;
        return 1;
    }

    public int restore() {
        if (!hasImage) {
            return NONE;
        }
        gold.becomeLike(kept);
        return 1;
    }

    // ---- 4 sheets

    public int dents(int sheet, int lane, int from, int what) {
        Sheet told = sheetAt(sheet);
        if (told == null || !isLane(lane) || !isIn(what, 0, 1)) {
            return BAD;
        }
        int refused = told.refusal(lane, from, PLACES);
        if (refused != NO_FAULT) {
            return refused;
        }
        int sets = 1;
        int least = 0;
        for (int place = 0; place < PLACES; place++) {
            long dent = told.itemAt(from + place);
            sets *= Dent.setsBy(gold, place, dent);
            least |= Dent.leastBy(gold, place, dent);
        }
        if (what == 0) {
            return sets;
        }
        return sets > 0 ? least : NONE;
    }

    public int tried(int sheet, int lane, int from, int n, int what) {
        Sheet told = sheetAt(sheet);
        if (told == null || !isLane(lane) || !isIn(n, 1, 8) || !isIn(what, 0, 2)) {
            return BAD;
        }
        int refused = told.refusal(lane, from, 2 * n);
        if (refused != NO_FAULT) {
            return refused;
        }
        int least = 0;
        int most = MOST;
        for (int i = 0; i < n; i++) {
            long change = told.itemAt(from + 2 * i);
            long felt = told.itemAt(from + 2 * i + 1);
            if (change < 0 || change > MOST || felt < 0 || felt > 1) {
                return NOT;
            }
            if (felt == 1) {
                most = Math.min(most, (int) change - 1);
            } else {
                least = Math.max(least, (int) change);
            }
        }
        return amongSenses(least, most, what);
    }

    public int film(int sheet, int lane, int from) {
        Sheet told = sheetAt(sheet);
        if (told == null || !isLane(lane)) {
            return BAD;
        }
        int refused = told.refusal(lane, from, PLACES);
        if (refused != NO_FAULT) {
            return refused;
        }
        for (int place = 0; place < PLACES; place++) {
            told.becomeAt(from + place, gold.loadIn(place));
        }
        return PLACES;
    }

    public int sheet(int sheet, int lane, int n) {
        Sheet told = sheetAt(sheet);
        if (told == null || !isLane(lane) || n > ITEMS) {
            return BAD;
        }
        if (n < 0) {
            return SIZE;
        }
        told.renew(lane, n);
        return n;
    }

    public int drop(int sheet) {
        Sheet told = sheetAt(sheet);
        if (told == null) {
            return BAD;
        }
        return told.holdsRow() ? told.clear() : NULL;
    }

    public int item(int sheet, int lane, int i, long v) {
        Sheet told = sheetAt(sheet);
        if (told == null || !isLane(lane)) {
            return BAD;
        }
        int refused = told.refusal(lane, i, 1);
        if (refused != NO_FAULT) {
            return refused;
        }
        told.becomeAt(i, v);
        return 1;
    }

    public int copy(int from, int i, int to, int j, int n) {
        Sheet source = sheetAt(from);
        Sheet target = sheetAt(to);
        if (source == null || target == null) {
            return BAD;
        }
        if (!source.holdsRow() || !target.holdsRow()) {
            return NULL;
        }
        if (!target.isOfLane(source)) {
            return CAST;
        }
        if (!source.hasItems(i, n) || !target.hasItems(j, n)) {
            return INDEX;
        }
        target.takeItems(j, source, i, n);
        return n;
    }

    // ---- what a number may be, and small sums

    private static boolean isIn(int number, int least, int most) {
        return number >= least && number <= most;
    }

    private static boolean isPlace(int place) {
        return place >= 0 && place < PLACES;
    }

    private static boolean isTown(int town) {
        return town >= 0 && town < TOWNS;
    }

    private static boolean isLane(int lane) {
        return isIn(lane, BYTES, LONGS);
    }

    private static boolean isPart(int part) {
        return isIn(part, 0, 1);
    }

    private static boolean holds(int set, int member) {
        return (set >> member & 1) != 0;
    }

    private Sheet sheetAt(int number) {
        return number >= 0 && number < sheets.length ? sheets[number] : null;
    }

    /** Of the senses from least to most: the least (0), the most (1), the change that parts them best (2). */
    private static int amongSenses(int least, int most, int what) {
        int senses = most - least + 1;
        if (senses < 1 || what == 2 && senses < 2) {
            return NONE;
        }
        if (what == 2) {
            // Felt, the change leaves the senses below it: the lower half, the smaller one of odd numbers.
            return least + senses / 2;
        }
        return what == 0 ? least : most;
    }

    private static int power(int base, int n) {
        int product = 1;
        for (int i = 0; i < n; i++) {
            product *= base;
        }
        return product;
    }

    /** Of a fraction in lowest terms: what stands above (0) or below (1). */
    private static int partOf(int above, int below, int part) {
        int common = commonDivisor(above, below);
        int number = part == 0 ? above : below;
        return common > 0 ? number / common : number;
    }

    private static int commonDivisor(int one, int other) {
        int greater = one;
        int smaller = other;
        // Euclid's rests halve at least every second time, so 64 rounds are enough for any two ints.
        for (int round = 0; round < 64 && smaller > 0; round++) {
            int rest = greater % smaller;
            greater = smaller;
            smaller = rest;
        }
        return greater;
    }

    /** ACTS as their CODES: 1000 times how it is done, 100 times the place, then a piece or another place. */
    private static final class Act {
        static final int LIFT = 0, LAY = 1, SWAP = 2, PUSH = 3;

        static int code(int how, int where, int other) {
            return 1000 * how + 100 * where + other;
        }

        static int how(int act) {
            return act / 1000;
        }

        static int where(int act) {
            return act / 100 % 10;
        }

        static int other(int act) {
            return act % 100;
        }

        /** The act that takes another one back by which the piece lifted left the top of its place. */
        static int back(int act, int lifted) {
            int where = where(act);
            switch (how(act)) {
                case LIFT:
                    return code(LAY, where, lifted);
                case LAY:
                    return code(LIFT, where, 0);
                case SWAP:
                    return code(SWAP, where, lifted);
                default:
                    return code(PUSH, other(act), where);
            }
        }
    }

    /** The pieces, where they lie, and the worm that lies on them. */
    private static final class Gold {
        private final int[] kind = new int[PIECES];
        private final int[] weight = new int[PIECES];
        private final int[] town = new int[PIECES];
        private final int[] place = new int[PIECES];
        /** Of a piece in a place: that one on which it lies, NO_PIECE if it lies lowest. */
        private final int[] below = new int[PIECES];
        private final int[] top = new int[PLACES];
        private final int[] sense = new int[PLACES];
        private int pieces;
        private int awake;

        Gold() {
            Arrays.fill(below, NO_PIECE);
            Arrays.fill(top, NO_PIECE);
            Arrays.fill(sense, FIRST_SENSE);
        }

        boolean isPiece(int piece) {
            return piece >= 0 && piece < pieces;
        }

        int pieces() {
            return pieces;
        }

        int timesAwake() {
            return awake;
        }

        int kindOf(int piece) {
            return isPiece(piece) ? kind[piece] : COIN;
        }

        int weighs(int piece) {
            if (!isPiece(piece)) {
                return 0;
            }
            return kind[piece] == CUP ? weight[piece] + 2 : weight[piece];
        }

        int ownerOf(int piece) {
            return isPiece(piece) && kind[piece] != LEAD ? town[piece] : NOBODY;
        }

        int placeOf(int piece) {
            return isPiece(piece) ? place[piece] : EATEN;
        }

        /** How many pieces lie on one. */
        int offOf(int piece) {
            int at = topOf(placeOf(piece));
            int on = 0;
            while (on < PIECES && at != piece && isPiece(at)) {
                at = below[at];
                on++;
            }
            return on;
        }

        /** The piece on which one lies. */
        int belowOf(int piece) {
            return isPiece(piece) ? below[piece] : NO_PIECE;
        }

        int topOf(int where) {
            return isPlace(where) ? top[where] : NO_PIECE;
        }

        int senseOf(int where) {
            return isPlace(where) ? sense[where] : 0;
        }

        void becomeFine(int where, int fine) {
            if (isPlace(where)) {
                sense[where] = fine;
            }
        }

        int loadIn(int where) {
            int load = 0;
            for (int piece = 0; piece < pieces; piece++) {
                if (placeOf(piece) == where) {
                    load += weighs(piece);
                }
            }
            return load;
        }

        int loadInPlaces() {
            int load = 0;
            for (int where = 0; where < PLACES; where++) {
                load += loadIn(where);
            }
            return load;
        }

        int loadInBagOf(int owner) {
            int load = 0;
            for (int piece = 0; piece < pieces; piece++) {
                if (placeOf(piece) == BAG && ownerOf(piece) == owner) {
                    load += weighs(piece);
                }
            }
            return load;
        }

        /** The set of the pieces in a place (the bag and the eaten, too). */
        int setIn(int where) {
            int set = 0;
            for (int piece = 0; piece < pieces; piece++) {
                if (placeOf(piece) == where) {
                    set |= 1 << piece;
                }
            }
            return set;
        }

        int piecesIn(int where) {
            return Integer.bitCount(setIn(where));
        }

        int piecesInPlaces() {
            return pieces - piecesIn(BAG) - piecesIn(EATEN);
        }

        int weighsSet(int set) {
            int load = 0;
            for (int piece = 0; piece < pieces; piece++) {
                if (holds(set, piece)) {
                    load += weighs(piece);
                }
            }
            return load;
        }

        int add(int kindTold, int weightTold, int townTold, int where) {
            int made = pieces;
            if (made < 0 || made >= PIECES) {
                return FULL;
            }
            pieces = made + 1;
            kind[made] = kindTold;
            weight[made] = weightTold;
            town[made] = townTold;
            place[made] = BAG;
            below[made] = NO_PIECE;
            put(made, where);
            return made;
        }

        void clearPieces() {
            pieces = 0;
            Arrays.fill(top, NO_PIECE);
        }

        void becomeLike(Gold other) {
            System.arraycopy(other.kind, 0, kind, 0, PIECES);
            System.arraycopy(other.weight, 0, weight, 0, PIECES);
            System.arraycopy(other.town, 0, town, 0, PIECES);
            System.arraycopy(other.place, 0, place, 0, PIECES);
            System.arraycopy(other.below, 0, below, 0, PIECES);
            System.arraycopy(other.top, 0, top, 0, PLACES);
            System.arraycopy(other.sense, 0, sense, 0, PLACES);
            pieces = other.pieces;
            awake = other.awake;
        }

        /** A piece of the bag comes to the top of a place. */
        private void put(int piece, int where) {
            if (isPiece(piece) && isPlace(where)) {
                below[piece] = top[where];
                top[where] = piece;
                place[piece] = where;
            }
        }

        /** The top of a place comes into the bag: the piece. */
        private int take(int where) {
            int piece = topOf(where);
            if (isPlace(where) && isPiece(piece)) {
                top[where] = below[piece];
                below[piece] = NO_PIECE;
                place[piece] = BAG;
            }
            return piece;
        }

        void turnOver() {
            for (int left = 0; left < PLACES / 2; left++) {
                int right = PLACES - 1 - left;
                int turned = turned(left);
                top[left] = turned(right);
                top[right] = turned;
            }
            for (int piece = 0; piece < pieces && piece < PIECES; piece++) {
                if (isPlace(place[piece])) {
                    place[piece] = PLACES - 1 - place[piece];
                }
            }
        }

        /** The pieces of a place lie the other way round: the top then. */
        private int turned(int where) {
            int over = NO_PIECE;
            int at = topOf(where);
            for (int n = 0; n < PIECES && isPiece(at); n++) {
                int next = below[at];
                below[at] = over;
                over = at;
                at = next;
            }
            return over;
        }

        /** Does an act, unless it can't be (NOT) or is felt (FULL): then the worm is awake. */
        int tryAct(int act) {
            if (!canBe(act)) {
                return NOT;
            }
            if (isFelt(act)) {
                awake++;
                eat();
                return FULL;
            }
            doAct(act);
            return DONE;
        }

        boolean canBe(int act) {
            int how = Act.how(act);
            boolean lies = how == Act.LAY || isPiece(topOf(Act.where(act)));
            boolean laid = how == Act.LIFT || how == Act.PUSH || placeOf(Act.other(act)) == BAG;
            return lies && laid;
        }

        boolean isFelt(int act) {
            int how = Act.how(act);
            int lifted = how == Act.LAY ? 0 : weighs(topOf(Act.where(act)));
            int laid = how == Act.LAY || how == Act.SWAP ? weighs(Act.other(act)) : 0;
            return isAboveSense(Act.where(act), laid - lifted)
                || how == Act.PUSH && isAboveSense(Act.other(act), lifted);
        }

        boolean isAboveSense(int where, int change) {
            return Math.abs(change) > senseOf(where);
        }

        /** Does an act that can be, felt or not. */
        void doAct(int act) {
            int where = Act.where(act);
            int other = Act.other(act);
            switch (Act.how(act)) {
                case Act.LIFT:
                    take(where);
                    break;
                case Act.LAY:
                    put(other, where);
                    break;
                case Act.SWAP:
                    take(where);
                    put(other, where);
                    break;
                default:
                    put(take(where), other);
                    break;
            }
        }

        private void eat() {
            int eaten = NO_PIECE;
            for (int piece = 0; piece < pieces; piece++) {
                boolean tasty = placeOf(piece) == BAG && kindOf(piece) != RUBY;
                if (tasty && (eaten == NO_PIECE || weighs(piece) < weighs(eaten))) {
                    eaten = piece;
                }
            }
            if (isPiece(eaten)) {
                place[eaten] = EATEN;
            }
        }
    }

    /** Looks for the fewest acts, none of them felt, by which a piece is in the bag. */
    private static final class Thief {
        static final int MOST_ACTS = 3;

        private final int[] row = new int[MOST_ACTS];

        /** How many acts; NONE if more than three would be needed. The first row of CODES is kept. */
        int fewestActs(Gold gold, int piece) {
            if (gold.placeOf(piece) == BAG) {
                return 0;
            }
            for (int acts = 1; acts <= MOST_ACTS; acts++) {
                if (search(gold, piece, row, 0, acts)) {
                    return acts;
                }
            }
            return NONE;
        }

        int codeAt(int i) {
            return i >= 0 && i < row.length ? row[i] : NONE;
        }

        /** Whether acts from the one at depth on have the piece; they are tried in the order of their CODES. */
        private static boolean search(Gold gold, int piece, int[] row, int depth, int acts) {
            // No act takes more than one piece off another, and the last must take the piece itself.
            if (depth < 0 || depth >= row.length || gold.offOf(piece) >= acts - depth) {
                return false;
            }
            int home = gold.placeOf(piece);
            for (int how = Act.LIFT; how <= Act.PUSH; how++) {
                for (int where = 0; where < PLACES; where++) {
                    int others = canHelp(how, where == home, acts - depth) ? othersOf(gold, how) : 0;
                    for (int other = 0; other < others; other++) {
                        boolean isAct = how != Act.PUSH || other != where;
                        row[depth] = Act.code(how, where, other);
                        if (isAct && leads(gold, piece, row, depth, acts)) {
                            return true;
                        }
                    }
                }
            }
            return false;
        }

        /**
         * The last act must take the piece. By fewer acts it is not had (these were tried ahead), so the last but one
         * must change what the last can be: bring a piece into the bag, or take one from where the piece lies.
         */
        private static boolean canHelp(int how, boolean atHome, int left) {
            if (left == 1) {
                return atHome && (how == Act.LIFT || how == Act.SWAP);
            }
            return left > 2 || how == Act.LIFT || how == Act.SWAP || how == Act.PUSH && atHome;
        }

        private static int othersOf(Gold gold, int how) {
            if (how == Act.LIFT) {
                return 1;
            }
            return how == Act.PUSH ? PLACES : gold.pieces();
        }

        /** Whether the act at depth can be unfelt and the piece is had by it and those behind it. */
        private static boolean leads(Gold gold, int piece, int[] row, int depth, int acts) {
            if (depth < 0 || depth >= row.length) {
                return false;
            }
            int act = row[depth];
            if (!gold.canBe(act) || gold.isFelt(act)) {
                return false;
            }
            if (depth + 1 == acts) {
                return true;
            }
            int lifted = gold.topOf(Act.where(act));
            gold.doAct(act);
            boolean found = search(gold, piece, row, depth + 1, acts);
            gold.doAct(Act.back(act, lifted));
            return found;
        }
    }

    /** What lies under another town's, and which place is whose. */
    private static final class Towns {
        private static final int MANY = 1000;

        /** By the set of towns that have a place: the fewest pieces astray. */
        private final int[] fewest = new int[TOWN_SETS];
        private final int[] next = new int[TOWN_SETS];

        static int pairsUnder(Gold gold, int town) {
            int pairs = 0;
            for (int where = 0; where < PLACES; where++) {
                int others = 0;
                int at = gold.topOf(where);
                for (int n = 0; n < PIECES && gold.isPiece(at); n++) {
                    int owner = gold.ownerOf(at);
                    if (owner == town) {
                        pairs += others;
                    } else if (owner != NOBODY) {
                        others++;
                    }
                    at = gold.belowOf(at);
                }
            }
            return pairs;
        }

        int fewestAstray(Gold gold) {
            Arrays.fill(fewest, MANY);
            fewest[0] = 0;
            for (int where = 0; where < PLACES; where++) {
                give(gold, where);
            }
            int needed = townsInPlaces(gold);
            int astray = MANY;
            for (int set = 0; set < TOWN_SETS; set++) {
                if ((set & needed) == needed) {
                    astray = Math.min(astray, fewest[set]);
                }
            }
            return astray;
        }

        /** A place is given to each town in turn. */
        private void give(Gold gold, int where) {
            Arrays.fill(next, MANY);
            for (int town = 0; town < TOWNS; town++) {
                int astray = astrayIn(gold, where, town);
                for (int set = 0; set < TOWN_SETS; set++) {
                    int given = (set | 1 << town) & TOWN_SETS - 1;
                    next[given] = Math.min(next[given], fewest[set] + astray);
                }
            }
            System.arraycopy(next, 0, fewest, 0, TOWN_SETS);
        }

        /** How many pieces in a place are another town's than that which has it. */
        private static int astrayIn(Gold gold, int where, int town) {
            int astray = 0;
            for (int piece = 0; piece < gold.pieces(); piece++) {
                int owner = gold.ownerOf(piece);
                if (gold.placeOf(piece) == where && owner != town && owner != NOBODY) {
                    astray++;
                }
            }
            return astray;
        }

        private static int townsInPlaces(Gold gold) {
            int set = 0;
            for (int piece = 0; piece < gold.pieces(); piece++) {
                int owner = gold.ownerOf(piece);
                if (isPlace(gold.placeOf(piece)) && owner != NOBODY) {
                    set |= 1 << owner;
                }
            }
            return set;
        }
    }

    /** Sets of pieces of one place by which its load is less by a dent. */
    private static final class Dent {
        static int setsBy(Gold gold, int where, long dent) {
            int there = gold.setIn(where);
            int subsets = 1 << Integer.bitCount(there);
            int sets = 0;
            int set = 0;
            for (int n = 0; n < subsets; n++) {
                if (gold.weighsSet(set) == dent) {
                    sets++;
                }
                set = nextSubset(set, there);
            }
            return sets;
        }

        /** The least such set; 0 if there is none. */
        static int leastBy(Gold gold, int where, long dent) {
            int there = gold.setIn(where);
            int subsets = 1 << Integer.bitCount(there);
            int set = 0;
            for (int n = 0; n < subsets; n++) {
                if (gold.weighsSet(set) == dent) {
                    return set;
                }
                set = nextSubset(set, there);
            }
            return 0;
        }

        /** Subsets as numbers, from the least on: the borrow of the subtraction runs through the bits not there. */
        private static int nextSubset(int set, int there) {
            return set - there & there;
        }
    }

    /** THE TAPE: what is typed, and how far it has been read. */
    private static final class Tape {
        private static final int ROOM = 120;
        private static final char BLANK = ' ', LAST = '~';
        private static final int NO_CHOICE = -1;

        private final char[] bytes = new char[ROOM];
        private int length;
        private int at;

        int append(long w, int n) {
            if (!isIn(n, 1, 8)) {
                return BAD;
            }
            for (int i = 0; i < n; i++) {
                if (!isIn(byteOf(w, i), BLANK, LAST)) {
                    return BAD;
                }
            }
            if (length > ROOM - n) {
                return FULL;
            }
            for (int i = n - 1; i >= 0 && length < ROOM; i--) {
                bytes[length] = (char) byteOf(w, i);
                length++;
            }
            return length;
        }

        private static int byteOf(long w, int i) {
            return (int) (w >> 8 * i & 255);
        }

        void empty() {
            length = 0;
            at = 0;
        }

        /** Where reading stands: no byte up to there is a fault. */
        int fault() {
            return -20 - at;
        }

        boolean isAtEnd() {
            skipBlanks();
            return at >= length;
        }

        private void skipBlanks() {
            while (at < length && at < ROOM && bytes[at] == BLANK) {
                at++;
            }
        }

        /** Which of some signs comes next: it is read then; if it is none of them, none is read. */
        int choice(String signs) {
            return choice(signs, signs.length(), NO_CHOICE);
        }

        /** Likewise, of the signs below a bound, but for one. */
        int choice(String signs, int bound, int but) {
            skipBlanks();
            if (at >= length || at >= ROOM) {
                return NO_CHOICE;
            }
            int chosen = signs.indexOf(bytes[at]);
            if (chosen < 0 || chosen >= bound || chosen == but) {
                return NO_CHOICE;
            }
            at++;
            return chosen;
        }

        /** A number 1 .. 99; else its first byte is where reading stands. */
        int number() {
            skipBlanks();
            int first = at;
            int value = 0;
            while (at < length && at < ROOM && isIn(bytes[at], '0', '9')) {
                value = Math.min(value * 10 + bytes[at] - '0', MOST + 1);
                at++;
            }
            if (isIn(value, 1, MOST)) {
                return value;
            }
            at = first;
            return NO_CHOICE;
        }
    }

    /** A HEAP as it is read, before its pieces take the place of others. */
    private static final class HeapText {
        private final int[] kind = new int[PIECES];
        private final int[] weight = new int[PIECES];
        private final int[] town = new int[PIECES];
        private final int[] place = new int[PIECES];

        /** How many pieces a tape tells, or its fault. */
        int read(Tape tape) {
            int read = 0;
            while (read < PIECES && (read == 0 || tape.choice(",") == 0)) {
                if (!readPiece(tape, read)) {
                    return tape.fault();
                }
                read++;
            }
            return tape.isAtEnd() ? read : tape.fault();
        }

        private boolean readPiece(Tape tape, int i) {
            if (i < 0 || i >= PIECES) {
                return false;
            }
            kind[i] = tape.choice("cklr");
            weight[i] = kind[i] < 0 ? -1 : tape.number();
            if (weight[i] < 0) {
                return false;
            }
            town[i] = 0;
            if (tape.choice("t") == 0) {
                town[i] = tape.choice("0123");
            }
            place[i] = BAG;
            if (town[i] >= 0 && tape.choice("@") == 0) {
                place[i] = tape.choice("012345");
            }
            return town[i] >= 0 && place[i] >= 0;
        }

        void layOut(Gold gold, int read) {
            gold.clearPieces();
            for (int i = 0; i < read && i < PIECES; i++) {
                gold.add(kind[i], weight[i], town[i], place[i]);
            }
        }
    }

    /** A NIGHT as it is read, before its acts are done. */
    private static final class NightText {
        private static final String DIGITS = "012345", LETTERS = "abcdefghijkl";

        /** An act has two bytes at least, so no tape tells more. */
        private final int[] acts = new int[Tape.ROOM / 2];

        /** How many acts a tape tells, or its fault. */
        int read(Tape tape, int pieces) {
            int read = 0;
            while (read < acts.length && (read == 0 || tape.choice(";") == 0)) {
                int act = readAct(tape, pieces);
                if (act < 0) {
                    return tape.fault();
                }
                acts[read] = act;
                read++;
            }
            return tape.isAtEnd() ? read : tape.fault();
        }

        /** The CODE of the next act; below 0 if the tape stands at a fault. */
        private static int readAct(Tape tape, int pieces) {
            int how = tape.choice("ldsp");
            if (how < 0) {
                return -1;
            }
            if (how == Act.LAY) {
                int piece = tape.choice(LETTERS, pieces, -1);
                int where = piece >= 0 && tape.choice(">") == 0 ? tape.choice(DIGITS) : -1;
                return where < 0 ? -1 : Act.code(how, where, piece);
            }
            int where = tape.choice(DIGITS);
            if (where < 0 || how == Act.LIFT) {
                return where < 0 ? -1 : Act.code(how, where, 0);
            }
            int other = -1;
            if (how == Act.SWAP) {
                other = tape.choice("=") == 0 ? tape.choice(LETTERS, pieces, -1) : -1;
            } else {
                other = tape.choice(">") == 0 ? tape.choice(DIGITS, PLACES, where) : -1;
            }
            return other < 0 ? -1 : Act.code(how, where, other);
        }

        /** How many of the acts that were read are done till one is not. */
        int act(Gold gold, int read) {
            int done = 0;
            while (done < read && done < acts.length && gold.tryAct(acts[done]) == DONE) {
                done++;
            }
            return done;
        }
    }

    /** A SHEET: nothing, or a row of a lane, each item as its lane holds it. */
    private static final class Sheet {
        private static final int NOTHING = -1;

        private final long[] row = new long[ITEMS];
        private int lane;
        private int size = NOTHING;

        boolean holdsRow() {
            return size >= 0;
        }

        boolean isOfLane(Sheet other) {
            return lane == other.lane;
        }

        boolean hasItems(int from, int n) {
            return n >= 0 && from >= 0 && from <= size - n;
        }

        /** Why n items from one on can't be taken as those of a row of a lane; NO_FAULT if they can. */
        int refusal(int laneTold, int from, int n) {
            if (!holdsRow()) {
                return NULL;
            }
            if (lane != laneTold) {
                return CAST;
            }
            return hasItems(from, n) ? NO_FAULT : INDEX;
        }

        void renew(int laneTold, int n) {
            lane = laneTold;
            size = Math.min(n, ITEMS);
            Arrays.fill(row, 0);
        }

        /** Holds nothing then: how many items it had. */
        int clear() {
            int had = size;
            size = NOTHING;
            return had;
        }

        long itemAt(int i) {
            return i >= 0 && i < ITEMS ? row[i] : 0;
        }

        void becomeAt(int i, long v) {
            if (i < 0 || i >= ITEMS) {
                return;
            }
            switch (lane) {
                case BYTES:
                    row[i] = (byte) v;
                    break;
                case INTS:
                    row[i] = (int) v;
                    break;
                default:
                    row[i] = v;
                    break;
            }
        }

        void takeItems(int j, Sheet source, int i, int n) {
            if (hasItems(j, n) && source.hasItems(i, n)) {
                System.arraycopy(source.row, i, row, j, n);
            }
        }
    }
}
