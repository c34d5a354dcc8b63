import java.util.Arrays;
import java.util.NoSuchElementException;

/** A judge of equations between programs with tests: the class that DOC.md promises. */
public final class TestJudge {
    public static final int NONE = -1;

    private static final int TAPE = 500;
    private static final int MOST_TESTS = 3;
    private static final int MOST_ACTS = 3;
    private static final int MOST_PROGRAMS = 8;
    private static final int MOST_FACTS = 2;
    private static final int MOST_OPEN = 4;
    private static final int MOST_WEIGHT = 5;
    private static final int MOST_FACT_WEIGHT = 2;
    private static final int MOST_SWAPPED = 6;
    private static final int MOST_LAYERS = 6;
    private static final int MOST_KEPT = 8;
    private static final int MOST_PRINTED = 60;
    private static final int MOST_LENGTH = 12;

    /** An atom is one of 8 at most; a letter is an atom and an act: atom * MOST_ACTS + act. */
    private static final int ATOMS = 8;
    private static final int LETTERS = ATOMS * MOST_ACTS;

    private static final int BAD_NUMBER = 1;
    private static final int NO_SUCH = 2;
    private static final int TOO_MANY = 3;
    private static final int SO_ALREADY = 4;
    private static final int NOT_THERE = 5;
    private static final int FAULTY = 9;

    private static final int MADE = 0;
    private static final int DROPPED = 1;
    private static final int ASSUMED = 2;

    /** What Tokens finds beside signs (told by their bytes) and the words below (told as packed). */
    private static final int END_OF_TEXT = 0;
    private static final int NO_TOKEN = 1;
    private static final int NAME = 2;

    /** The words that are no names, packed as Tokens packs them: five bits a letter. */
    private static final int WORD_TESTS = 20 << 20 | 5 << 15 | 19 << 10 | 20 << 5 | 19;
    private static final int WORD_ACTS = 1 << 15 | 3 << 10 | 20 << 5 | 19;
    private static final int WORD_LET = 12 << 10 | 5 << 5 | 20;
    private static final int WORD_ZERO = 26 << 15 | 5 << 10 | 18 << 5 | 15;
    private static final int WORD_IF = 9 << 5 | 6;
    private static final int WORD_THEN = 20 << 15 | 8 << 10 | 5 << 5 | 14;
    private static final int WORD_ELSE = 5 << 15 | 12 << 10 | 19 << 5 | 5;
    private static final int WORD_WHILE = 23 << 20 | 8 << 15 | 9 << 10 | 12 << 5 | 5;
    private static final int WORD_DO = 4 << 5 | 15;
    private static final int WORD_END = 5 << 10 | 14 << 5 | 4;

    private static final int[] NO_PLACES = {};

    private final byte[] tape = new byte[TAPE];
    private final Tokens tokens = new Tokens();
    private int taped = 0;
    private int state = 0;
    private int faultKind = NONE;
    private int faultPlace = NONE;
    private World world = new World();
    private final Deeds deeds = new Deeds();
    private final Search search = new Search();
    private final Table table = new Table();
    private final Paper paper = new Paper();
    private final Piece nothing = new Piece(0, 0);
    private int walkProgram = NONE;
    private int walkActs = 0;
    private int walkRest = 0;

    public TestJudge() {
    }

    public int status() {
        return state;
    }

    // ---- the text

    public int feed(int a, int b, int c, int d, int e) {
        if (taped + 20 > TAPE) {
            return NONE;
        }
        putBytes(a);
        putBytes(b);
        putBytes(c);
        putBytes(d);
        putBytes(e);
        return taped;
    }

    private void putBytes(int four) {
        for (int shift = 24; shift >= 0 && taped < TAPE; shift -= 8) {
            tape[taped] = (byte) (four >> shift);
            taped++;
        }
    }

    public int load(int n) {
        if (n < 0 || n > taped) {
            return refuse(BAD_NUMBER);
        }
        taped = 0;
        tokens.cut(tape, n);
        Reader reader = new Reader(tokens);
        reader.readText();
        faultKind = reader.fault;
        faultPlace = reader.place;
        if (reader.fault != 0) {
            return refuse(FAULTY);
        }
        world = reader.world;
        world.sealFacts();
        table.forget();
        deeds.kept = 0;
        endWalk();
        return allow(world.held);
    }

    public int fault(int what) {
        return what == 0 ? faultKind : what == 1 ? faultPlace : NONE;
    }

    public int many(int what) {
        switch (what) {
            case 0:
                return allow(world.tests);
            case 1:
                return allow(world.acts);
            case 2:
                return allow(world.held);
            case 3:
                return allow(world.told);
            case 4:
                return allow(world.atomCount());
            case 5:
                return allow(world.assumed);
            case 6:
                return allow(deeds.kept);
            case 7:
                return allow(world.bar(world.assumed).empty);
            default:
                return refuse(BAD_NUMBER);
        }
    }

    public int program(int program, int what) {
        if (what != 0 && what != 1) {
            return refuse(BAD_NUMBER);
        }
        if (lacks(program)) {
            return refuse(NO_SUCH);
        }
        int weight = world.piece(program).weight;
        return allow(what == 0 ? weight : bit(weight == 0));
    }

    public int fact(int fact, int what) {
        if (what != 0 && what != 1) {
            return refuse(BAD_NUMBER);
        }
        if (lacksFact(fact)) {
            return refuse(NO_SUCH);
        }
        return allow(what == 0 ? world.factPiece(fact).weight : world.assumed >> fact & 1);
    }

    // ---- strings

    public int atoms(int program) {
        if (lacks(program)) {
            return refuse(NO_SUCH);
        }
        return allow(world.piece(program).empty & ~world.bar(world.assumed).empty);
    }

    public int uses(int program, int what) {
        if (what < 0 || what > 2) {
            return refuse(BAD_NUMBER);
        }
        if (lacks(program)) {
            return refuse(NO_SUCH);
        }
        tabulate(program);
        if (what == 0) {
            return allow(table.beginnings());
        }
        return allow(what == 1 ? table.endings() : table.actsUsed());
    }

    public long count(int program, int n) {
        return both(program, program, n);
    }

    public int least(int program) {
        return first(program, NONE);
    }

    public int greatest(int program) {
        if (lacks(program)) {
            return refuse(NO_SUCH);
        }
        tabulate(program);
        int length = table.longest();
        return length < 0 ? refuse(NOT_THERE) : allow(length);
    }

    public int first(int program, int k) {
        if (k < NONE) {
            return refuse(BAD_NUMBER);
        }
        if (lacks(program)) {
            return refuse(NO_SUCH);
        }
        // What tells a program from one without strings is its own first string.
        search.begin(world, world.assumed, world.piece(program), nothing);
        return spell(k);
    }

    /** The k-th place of the first string that tells the two apart for which the search is begun. */
    private int spell(int k) {
        if (!search.findApart(false)) {
            return refuse(NOT_THERE);
        }
        if (k == NONE) {
            return allow(search.foundLength());
        }
        int place = search.foundPlace(k);
        return place < 0 ? refuse(NOT_THERE) : allow(place);
    }

    // ---- equations

    public int equal(int program, int other) {
        if (lacks(program) || lacks(other)) {
            return refuse(NO_SUCH);
        }
        return allow(bit(alike(world.assumed, program, other)));
    }

    public int within(int program, int other) {
        if (lacks(program) || lacks(other)) {
            return refuse(NO_SUCH);
        }
        search.begin(world, world.assumed, world.piece(program), world.piece(other));
        return allow(bit(!search.findApart(true)));
    }

    public int telling(int program, int other, int k) {
        if (k < NONE) {
            return refuse(BAD_NUMBER);
        }
        if (lacks(program) || lacks(other)) {
            return refuse(NO_SUCH);
        }
        search.begin(world, world.assumed, world.piece(program), world.piece(other));
        return spell(k);
    }

    public int whose(int program, int other) {
        if (lacks(program) || lacks(other)) {
            return refuse(NO_SUCH);
        }
        if (alike(world.assumed, program, other)) {
            return refuse(NOT_THERE);
        }
        return allow(bit(!search.foundInOne()));
    }

    public int same(int program) {
        if (lacks(program)) {
            return refuse(NO_SUCH);
        }
        return allow(leastAlike(program));
    }

    public int kinds() {
        int unlike = 0;
        for (int i = 0; i < world.held; i++) {
            unlike += bit(leastAlike(i) == i);
        }
        return allow(unlike);
    }

    public int swaps(int program, int other) {
        if (lacks(program) || lacks(other)) {
            return refuse(NO_SUCH);
        }
        Piece x = world.piece(program);
        Piece y = world.piece(other);
        if (x.weight + y.weight > MOST_SWAPPED) {
            return refuse(TOO_MANY);
        }
        search.begin(world, world.assumed, Piece.row(x, y), Piece.row(y, x));
        return allow(bit(!search.findApart(false)));
    }

    public long both(int program, int other, int n) {
        if (n < 0 || n > MOST_LENGTH) {
            return refuse(BAD_NUMBER);
        }
        if (lacks(program) || lacks(other)) {
            return refuse(NO_SUCH);
        }
        search.begin(world, world.assumed, world.piece(program), world.piece(other));
        state = 0;
        return search.countShared(n);
    }

    /** Whether two programs have the same strings, if just the facts of a set were assumed. */
    private boolean alike(int facts, int program, int other) {
        search.begin(world, facts, world.piece(program), world.piece(other));
        return !search.findApart(false);
    }

    private int leastAlike(int program) {
        for (int i = 0; i < program; i++) {
            if (alike(world.assumed, i, program)) {
                return i;
            }
        }
        return program;
    }

    // ---- rests

    public int rests(int program) {
        if (lacks(program)) {
            return refuse(NO_SUCH);
        }
        tabulate(program);
        return allow(table.size);
    }

    public int rest(int program, int k) {
        if (lacks(program)) {
            return refuse(NO_SUCH);
        }
        tabulate(program);
        return table.has(k) ? allow(table.ends[k]) : refuse(NOT_THERE);
    }

    public int next(int program, int k, int atom, int act) {
        if (lacks(program) || lacksLetter(atom, act)) {
            return refuse(NO_SUCH);
        }
        tabulate(program);
        int behind = table.target(k, atom, act);
        return behind < 0 ? refuse(NOT_THERE) : allow(behind);
    }

    public int clear(int program) {
        if (lacks(program)) {
            return refuse(NO_SUCH);
        }
        tabulate(program);
        return allow(bit(table.oneWayEach()));
    }

    public int far(int program, int k) {
        if (lacks(program)) {
            return refuse(NO_SUCH);
        }
        tabulate(program);
        return table.has(k) ? allow(table.depth[k]) : refuse(NOT_THERE);
    }

    // ---- ahead and behind

    public int right(int ahead, int program, int behind) {
        if (noAtoms(ahead) || noAtoms(behind)) {
            return refuse(BAD_NUMBER);
        }
        if (lacks(program)) {
            return refuse(NO_SUCH);
        }
        tabulate(program);
        return allow(bit((table.endingsFrom(ahead) & ~behind) == 0));
    }

    public int weakest(int program, int behind) {
        if (noAtoms(behind)) {
            return refuse(BAD_NUMBER);
        }
        if (lacks(program)) {
            return refuse(NO_SUCH);
        }
        tabulate(program);
        return allow(table.safeAtoms(world.allAtoms(), behind));
    }

    public int strongest(int ahead, int program) {
        if (noAtoms(ahead)) {
            return refuse(BAD_NUMBER);
        }
        if (lacks(program)) {
            return refuse(NO_SUCH);
        }
        tabulate(program);
        return allow(table.endingsFrom(ahead));
    }

    public int keeps(int program, int atoms) {
        if (noAtoms(atoms)) {
            return refuse(BAD_NUMBER);
        }
        if (lacks(program)) {
            return refuse(NO_SUCH);
        }
        tabulate(program);
        int kept = atoms;
        // Each round but the last takes an atom away.
        for (int round = 0; round <= ATOMS; round++) {
            kept = table.safeAtoms(kept, kept);
        }
        return allow(kept);
    }

    // ---- facts

    public int needs(int program, int other) {
        if (lacks(program) || lacks(other)) {
            return refuse(NO_SUCH);
        }
        int assumed = world.assumed;
        if (!alike(assumed, program, other)) {
            return refuse(NOT_THERE);
        }
        int needed = 0;
        for (int fact = 0; fact < world.told; fact++) {
            int one = 1 << fact;
            if ((assumed & one) != 0 && !alike(assumed & ~one, program, other)) {
                needed |= one;
            }
        }
        return allow(needed);
    }

    public int fewest(int program, int other) {
        if (lacks(program) || lacks(other)) {
            return refuse(NO_SUCH);
        }
        for (int size = 0; size <= world.told; size++) {
            for (int facts = 0; facts < 1 << world.told; facts++) {
                if (Integer.bitCount(facts) == size && alike(facts, program, other)) {
                    return allow(facts);
                }
            }
        }
        return refuse(NOT_THERE);
    }

    // ---- walks

    public int walk(int program) {
        if (lacks(program)) {
            return refuse(NO_SUCH);
        }
        tabulate(program);
        if (table.size == 0) {
            return refuse(NOT_THERE);
        }
        walkProgram = program;
        walkActs = 0;
        walkRest = 0;
        return allow(table.size);
    }

    public int step(int atom, int act) {
        if (lacksLetter(atom, act)) {
            return refuse(NO_SUCH);
        }
        if (walkProgram == NONE) {
            return refuse(NOT_THERE);
        }
        tabulate(walkProgram);
        int behind = table.target(walkRest, atom, act);
        if (behind < 0) {
            return refuse(NOT_THERE);
        }
        walkActs++;
        walkRest = behind;
        return allow(behind);
    }

    public int walked(int what) {
        if (what < 0 || what > 3) {
            return refuse(BAD_NUMBER);
        }
        if (walkProgram == NONE) {
            return refuse(NOT_THERE);
        }
        switch (what) {
            case 0:
                return allow(walkProgram);
            case 1:
                return allow(walkActs);
            case 2:
                return allow(walkRest);
            default:
                tabulate(walkProgram);
                return allow(table.has(walkRest) ? table.ends[walkRest] : 0);
        }
    }

    private void endWalk() {
        walkProgram = NONE;
    }

    // ---- actions

    public int make(int how, int program, int other, int test) {
        if (how < 0 || how > 4) {
            return refuse(BAD_NUMBER);
        }
        if (lacks(program) || lacks(other) || how >= 3 && (test < 0 || test >= world.tests)) {
            return refuse(NO_SUCH);
        }
        boolean alone = how == 2 || how == 4;
        Piece x = world.piece(program);
        Piece y = world.piece(other);
        int weight = alone ? x.weight : x.weight + y.weight;
        int under = world.layer(program);
        int layers = 1 + (alone ? under : Math.max(under, world.layer(other)));
        if (world.held >= MOST_PROGRAMS || weight > MOST_WEIGHT || layers > MOST_LAYERS) {
            return refuse(TOO_MANY);
        }
        world.insert(world.held, made(how, x, y, test), layers);
        deeds.keep(MADE, world.held - 1, nothing, 0);
        endWalk();
        return allow(world.held - 1);
    }

    private Piece made(int how, Piece x, Piece y, int test) {
        int all = world.allAtoms();
        Piece yes = new Piece(0, world.testAtoms(test));
        Piece no = new Piece(0, all & ~yes.empty);
        switch (how) {
            case 0:
                return Piece.sum(x, y);
            case 1:
                return Piece.row(x, y);
            case 2:
                return Piece.star(x, all);
            case 3:
                return Piece.sum(Piece.row(yes, x), Piece.row(no, y));
            default:
                return Piece.row(Piece.star(Piece.row(yes, x), all), no);
        }
    }

    public int drop(int program) {
        if (lacks(program)) {
            return refuse(NO_SUCH);
        }
        deeds.keep(DROPPED, program, world.piece(program), world.layer(program));
        world.remove(program);
        endWalk();
        return allow(world.held);
    }

    public int assume(int fact, boolean yes) {
        if (lacksFact(fact)) {
            return refuse(NO_SUCH);
        }
        if ((world.assumed >> fact & 1) == bit(yes)) {
            return refuse(SO_ALREADY);
        }
        world.assumed ^= 1 << fact;
        deeds.keep(ASSUMED, fact, nothing, 0);
        endWalk();
        return allow(Integer.bitCount(world.assumed));
    }

    public int undo() {
        if (deeds.kept == 0) {
            return refuse(NOT_THERE);
        }
        deeds.takeBack(world);
        endWalk();
        return allow(deeds.kept);
    }

    public int print(int program) {
        if (lacks(program)) {
            return refuse(NO_SUCH);
        }
        tabulate(program);
        if (table.size > MOST_PRINTED) {
            return refuse(TOO_MANY);
        }
        paper.size = 0;
        for (int k = 0; k < table.size; k++) {
            paper.putRest(table, k);
        }
        return allow(paper.size);
    }

    public int out(int i) throws NoSuchElementException {
        if (i < 0 || i >= paper.size) {
            throw new NoSuchElementException();
        }
        return paper.bytes[i];
    }

    // ---- what calls share

    private int allow(int answer) {
        state = 0;
        return answer;
    }

    private int refuse(int why) {
        state = why;
        return NONE;
    }

    private boolean lacks(int program) {
        return program < 0 || program >= world.held;
    }

    private boolean lacksFact(int fact) {
        return fact < 0 || fact >= world.told;
    }

    private boolean lacksLetter(int atom, int act) {
        return atom < 0 || atom >= world.atomCount() || act < 0 || act >= world.acts;
    }

    private boolean noAtoms(int set) {
        return (set & ~world.allAtoms()) != 0;
    }

    /** The table in hand is that of a program then; it is made anew only if it was another one. */
    private void tabulate(int program) {
        Piece piece = world.piece(program);
        if (!table.isOf(piece, world.assumed)) {
            search.begin(world, world.assumed, piece, nothing);
            table.build(search, piece, world.assumed);
        }
    }

    private static int bit(boolean yes) {
        return yes ? 1 : 0;
    }

    /**
     * What strings a program has, told by the places of its acts: with which atoms one gets into a
     * place at first, out of it at last, and from place to place. It is never changed once made, so
     * that programs made of it keep what it was when it is dropped.
     */
    private static final class Piece {
        /** A heavier piece keeps its weight alone: it is never asked for its strings. */
        static final int MOST_PLACES = 6;

        final int weight;
        final int empty;
        final int size;
        final int[] act;
        final int[] in;
        final int[] out;
        final int[] follow;

        Piece(int weight, int empty) {
            this.weight = weight;
            this.empty = empty;
            size = weight > 0 && weight <= MOST_PLACES ? weight : 0;
            act = size == 0 ? NO_PLACES : new int[size];
            in = size == 0 ? NO_PLACES : new int[size];
            out = size == 0 ? NO_PLACES : new int[size];
            follow = size == 0 ? NO_PLACES : new int[size * size];
        }

        static Piece ofAct(int act, int all) {
            Piece piece = new Piece(1, 0);
            piece.act[0] = act;
            piece.in[0] = all;
            piece.out[0] = all;
            return piece;
        }

        static Piece sum(Piece x, Piece y) {
            Piece piece = new Piece(x.weight + y.weight, x.empty | y.empty);
            piece.copyPlaces(x, 0);
            piece.copyPlaces(y, x.size);
            return piece;
        }

        static Piece row(Piece x, Piece y) {
            Piece piece = new Piece(x.weight + y.weight, x.empty & y.empty);
            if (piece.size != x.size + y.size) {
                return piece;
            }
            piece.copyPlaces(x, 0);
            piece.copyPlaces(y, x.size);
            for (int p = 0; p < x.size; p++) {
                piece.out[p] &= y.empty;
                for (int q = 0; q < y.size; q++) {
                    piece.follow[p * piece.size + x.size + q] = x.out[p] & y.in[q];
                }
            }
            for (int q = 0; q < y.size; q++) {
                piece.in[x.size + q] &= x.empty;
            }
            return piece;
        }

        static Piece star(Piece x, int all) {
            Piece piece = new Piece(x.weight, all);
            piece.copyPlaces(x, 0);
            for (int p = 0; p < x.size; p++) {
                for (int q = 0; q < x.size; q++) {
                    piece.follow[p * x.size + q] |= x.out[p] & x.in[q];
                }
            }
            return piece;
        }

        /** Only a piece that is being made calls this. */
        private void copyPlaces(Piece x, int at) {
            if (at + x.size > size) {
                return;
            }
            for (int p = 0; p < x.size; p++) {
                act[at + p] = x.act[p];
                in[at + p] = x.in[p];
                out[at + p] = x.out[p];
                for (int q = 0; q < x.size; q++) {
                    follow[(at + p) * size + at + q] = x.follow[p * x.size + q];
                }
            }
        }
    }

    /** What the latest text without a fault told, with what actions did to it since. */
    private static final class World {
        int tests = 0;
        int acts = 0;
        int held = 0;
        int told = 0;
        int assumed = 0;
        private final Piece[] programs = new Piece[MOST_PROGRAMS];
        private final int[] layers = new int[MOST_PROGRAMS];
        private final Piece[] facts = new Piece[MOST_FACTS];
        /** For each set of facts what they forbid together. */
        private final Piece[] bars = new Piece[1 << MOST_FACTS];
        private final Piece none = new Piece(0, 0);

        int atomCount() {
            return 1 << tests;
        }

        int allAtoms() {
            return (1 << (1 << tests)) - 1;
        }

        int testAtoms(int test) {
            int set = 0;
            for (int atom = 0; atom < 1 << tests; atom++) {
                set |= (atom >> test & 1) << atom;
            }
            return set;
        }

        Piece piece(int program) {
            Piece found = program >= 0 && program < held ? programs[program] : null;
            return found == null ? none : found;
        }

        int layer(int program) {
            return program >= 0 && program < held ? layers[program] : 0;
        }

        Piece factPiece(int fact) {
            Piece found = fact >= 0 && fact < told ? facts[fact] : null;
            return found == null ? none : found;
        }

        Piece bar(int set) {
            Piece found = set >= 0 && set < bars.length ? bars[set] : null;
            return found == null ? none : found;
        }

        void tellFact(Piece piece) {
            if (told < MOST_FACTS) {
                facts[told] = piece;
                told++;
            }
        }

        int factWeight() {
            int weight = 0;
            for (int fact = 0; fact < told; fact++) {
                weight += factPiece(fact).weight;
            }
            return weight;
        }

        void sealFacts() {
            assumed = (1 << told) - 1;
            for (int set = 0; set < bars.length; set++) {
                Piece together = none;
                for (int fact = 0; fact < told; fact++) {
                    together = (set >> fact & 1) == 0 ? together : Piece.sum(together, factPiece(fact));
                }
                bars[set] = together;
            }
        }

        void insert(int at, Piece piece, int layer) {
            if (at < 0 || at > held || held >= MOST_PROGRAMS) {
                return;
            }
            for (int i = held; i > at; i--) {
                programs[i] = programs[i - 1];
                layers[i] = layers[i - 1];
            }
            programs[at] = piece;
            layers[at] = layer;
            held++;
        }

        void remove(int at) {
            if (at < 0 || at >= held) {
                return;
            }
            for (int i = at; i + 1 < held; i++) {
                programs[i] = programs[i + 1];
                layers[i] = layers[i + 1];
            }
            held--;
            programs[held] = null;
        }
    }

    /** The latest actions, so that they can go back. */
    private static final class Deeds {
        int kept = 0;
        private final int[] kinds = new int[MOST_KEPT];
        private final int[] numbers = new int[MOST_KEPT];
        private final Piece[] pieces = new Piece[MOST_KEPT];
        private final int[] layers = new int[MOST_KEPT];

        void keep(int kind, int number, Piece piece, int layer) {
            if (kept >= MOST_KEPT) {
                forgetOldest();
            }
            kinds[kept] = kind;
            numbers[kept] = number;
            pieces[kept] = piece;
            layers[kept] = layer;
            kept++;
        }

        private void forgetOldest() {
            for (int i = 1; i < MOST_KEPT; i++) {
                kinds[i - 1] = kinds[i];
                numbers[i - 1] = numbers[i];
                pieces[i - 1] = pieces[i];
                layers[i - 1] = layers[i];
            }
            kept = MOST_KEPT - 1;
        }

        void takeBack(World world) {
            if (kept <= 0 || kept > MOST_KEPT) {
                return;
            }
            kept--;
            int number = numbers[kept];
            if (kinds[kept] == MADE) {
                world.remove(number);
            } else if (kinds[kept] == DROPPED) {
                world.insert(number, pieces[kept], layers[kept]);
            } else {
                world.assumed ^= 1 << number;
            }
        }
    }

    /** A text's tokens, cut once, then taken in hand one at a time. */
    private static final class Tokens {
        int count = 0;
        /** The one in hand: END_OF_TEXT, NO_TOKEN, NAME, a sign's byte, or a packed word that is no name. */
        int kind = END_OF_TEXT;
        int word = 0;
        int place = 0;
        private int behind = 0;
        private final int[] kinds = new int[TAPE + 1];
        private final int[] words = new int[TAPE + 1];
        private final int[] places = new int[TAPE + 1];

        /** Cuts the first bytes of a text, and takes the first token in hand. */
        void cut(byte[] text, int bytes) {
            int length = bytes < text.length ? bytes : text.length;
            count = 0;
            int at = 0;
            while (at < length) {
                int start = at;
                int packed = 0;
                while (at < length && text[at] >= 'a' && text[at] <= 'z') {
                    packed = packed << 5 | text[at] - 'a' + 1;
                    at++;
                }
                if (at > start) {
                    put(at - start > 6 ? NO_TOKEN : isFixed(packed) ? packed : NAME, packed, start);
                } else {
                    if (text[at] != 10 && text[at] != 32) {
                        put(isSign(text[at]) ? text[at] : NO_TOKEN, 0, start);
                    }
                    at++;
                }
            }
            put(END_OF_TEXT, 0, length);
            behind = 0;
            advance();
        }

        private void put(int newKind, int newWord, int newPlace) {
            if (count < kinds.length) {
                kinds[count] = newKind;
                words[count] = newWord;
                places[count] = newPlace;
                count++;
            }
        }

        /** The end stays in hand. */
        void advance() {
            if (behind < count) {
                kind = kinds[behind];
                word = words[behind];
                place = places[behind];
                behind++;
            }
        }

        private static boolean isSign(int sign) {
            switch (sign) {
                case '0':
                case '1':
                case '+':
                case '*':
                case '!':
                case '(':
                case ')':
                case '=':
                case ';':
                    return true;
                default:
                    return false;
            }
        }

        private static boolean isFixed(int word) {
            switch (word) {
                case WORD_TESTS:
                case WORD_ACTS:
                case WORD_LET:
                case WORD_ZERO:
                case WORD_IF:
                case WORD_THEN:
                case WORD_ELSE:
                case WORD_WHILE:
                case WORD_DO:
                case WORD_END:
                    return true;
                default:
                    return false;
            }
        }
    }

    /** Reads a text into a world of its own, up to the first fault. */
    private static final class Reader {
        private static final int CANNOT_STAND = 2;
        private static final int WRONG_NAME = 3;
        private static final int ONE_TOO_MANY = 4;
        private static final int NOT_PLAIN = 5;
        private static final int TOO_HEAVY = 5;

        private static final int FIRST_ACT = MOST_TESTS;
        private static final int FIRST_PROGRAM = MOST_TESTS + MOST_ACTS;

        final World world = new World();
        int fault = 0;
        int place = NONE;
        private final Tokens tokens;
        /** Tests, acts and programs each have slots of their own; 0 stands in one that is free. */
        private final int[] names = new int[FIRST_PROGRAM + MOST_PROGRAMS];
        private boolean namesClosed = false;

        Reader(Tokens tokens) {
            this.tokens = tokens;
        }

        void readText() {
            for (int line = 0; line <= tokens.count && fault == 0 && tokens.kind != END_OF_TEXT; line++) {
                switch (tokens.kind) {
                    case WORD_TESTS:
                        readNames(true);
                        break;
                    case WORD_ACTS:
                        readNames(false);
                        break;
                    case WORD_LET:
                        readLet();
                        break;
                    case WORD_ZERO:
                        readZero();
                        break;
                    default:
                        fail(CANNOT_STAND);
                        break;
                }
            }
        }

        /** At the token in hand; only the first call counts. */
        private void fail(int kind) {
            if (fault == 0) {
                fault = tokens.kind == NO_TOKEN && kind != NOT_PLAIN ? 1 : kind;
                place = tokens.place;
            }
        }

        private void readNames(boolean tests) {
            if (namesClosed) {
                fail(CANNOT_STAND);
                return;
            }
            tokens.advance();
            if (tokens.kind != NAME) {
                fail(CANNOT_STAND);
            }
            for (int i = 0; i <= tokens.count && fault == 0 && tokens.kind == NAME; i++) {
                readNewName(tests);
            }
            endLine(0, 0);
        }

        private void readNewName(boolean tests) {
            int there = tests ? world.tests : world.acts;
            if (slotOf(tokens.word) != NONE) {
                fail(WRONG_NAME);
                return;
            }
            if (there >= (tests ? MOST_TESTS : MOST_ACTS)) {
                fail(ONE_TOO_MANY);
                return;
            }
            names[tests ? there : FIRST_ACT + there] = tokens.word;
            if (tests) {
                world.tests++;
            } else {
                world.acts++;
            }
            tokens.advance();
        }

        private void readLet() {
            if (world.held >= MOST_PROGRAMS) {
                fail(ONE_TOO_MANY);
                return;
            }
            namesClosed = true;
            tokens.advance();
            int word = tokens.word;
            if (tokens.kind != NAME) {
                fail(CANNOT_STAND);
                return;
            }
            if (slotOf(word) != NONE) {
                fail(WRONG_NAME);
                return;
            }
            tokens.advance();
            expect('=');
            Piece piece = readSum(0);
            endLine(piece.weight, MOST_WEIGHT);
            if (fault == 0) {
                names[FIRST_PROGRAM + world.held] = word;
                world.insert(world.held, piece, 0);
            }
        }

        private void readZero() {
            if (world.told >= MOST_FACTS) {
                fail(ONE_TOO_MANY);
                return;
            }
            namesClosed = true;
            tokens.advance();
            Piece piece = readSum(0);
            endLine(world.factWeight() + piece.weight, MOST_FACT_WEIGHT);
            if (fault == 0) {
                world.tellFact(piece);
            }
        }

        private void endLine(int weight, int most) {
            if (tokens.kind == ';' && weight > most) {
                fail(TOO_HEAVY);
            }
            expect(';');
        }

        private void expect(int kind) {
            if (tokens.kind != kind) {
                fail(CANNOT_STAND);
            }
            if (fault == 0) {
                tokens.advance();
            }
        }

        /** The depth of the recursion is open: how many of ! ( if while are, 4 at most. */
        private Piece readSum(int open) {
            int all = world.allAtoms();
            Piece total = new Piece(0, 0);
            Piece row = new Piece(0, all);
            for (int i = 0; i <= tokens.count && fault == 0; i++) {
                Piece one = readBase(open);
                row = Piece.row(row, skipStars() ? Piece.star(one, all) : one);
                if (tokens.kind == '+') {
                    total = Piece.sum(total, row);
                    row = new Piece(0, all);
                    expect('+');
                } else if (!beginsBase(tokens.kind)) {
                    break;
                }
            }
            return Piece.sum(total, row);
        }

        private boolean skipStars() {
            boolean some = false;
            for (int i = 0; i <= tokens.count && fault == 0 && tokens.kind == '*'; i++) {
                some = true;
                tokens.advance();
            }
            return some;
        }

        private static boolean beginsBase(int kind) {
            return kind == '0' || kind == '1' || kind == NAME || opens(kind);
        }

        private static boolean opens(int kind) {
            return kind == '!' || kind == '(' || kind == WORD_IF || kind == WORD_WHILE;
        }

        private Piece readBase(int open) {
            int kind = tokens.kind;
            if (!beginsBase(kind)) {
                fail(CANNOT_STAND);
            } else if (opens(kind) && open >= MOST_OPEN) {
                fail(ONE_TOO_MANY);
            }
            if (fault != 0) {
                return new Piece(0, 0);
            }
            if (kind == NAME) {
                return readName();
            }
            tokens.advance();
            switch (kind) {
                case '!':
                    return readNot(open + 1);
                case '(':
                    Piece inside = readSum(open + 1);
                    expect(')');
                    return inside;
                case WORD_IF:
                    return readIf(open + 1);
                case WORD_WHILE:
                    return readWhile(open + 1);
                default:
                    return new Piece(0, kind == '1' ? world.allAtoms() : 0);
            }
        }

        private Piece readName() {
            int slot = slotOf(tokens.word);
            if (slot == NONE) {
                fail(WRONG_NAME);
                return new Piece(0, 0);
            }
            tokens.advance();
            if (slot >= FIRST_PROGRAM) {
                return world.piece(slot - FIRST_PROGRAM);
            }
            if (slot >= FIRST_ACT) {
                return Piece.ofAct(slot - FIRST_ACT, world.allAtoms());
            }
            return new Piece(0, world.testAtoms(slot));
        }

        private Piece readNot(int open) {
            Piece piece = readBase(open);
            needPlain(piece);
            return opposite(piece);
        }

        private Piece readIf(int open) {
            Piece test = readSum(open);
            needPlain(test);
            expect(WORD_THEN);
            Piece yes = readSum(open);
            expect(WORD_ELSE);
            Piece no = readSum(open);
            expect(WORD_END);
            return Piece.sum(Piece.row(test, yes), Piece.row(opposite(test), no));
        }

        private Piece readWhile(int open) {
            Piece test = readSum(open);
            needPlain(test);
            expect(WORD_DO);
            Piece body = readSum(open);
            expect(WORD_END);
            return Piece.row(Piece.star(Piece.row(test, body), world.allAtoms()), opposite(test));
        }

        private Piece opposite(Piece plain) {
            return new Piece(0, world.allAtoms() & ~plain.empty);
        }

        private void needPlain(Piece piece) {
            if (piece.weight > 0) {
                fail(NOT_PLAIN);
            }
        }

        private int slotOf(int word) {
            for (int slot = 0; slot < names.length; slot++) {
                if (names[slot] == word) {
                    return slot;
                }
            }
            return NONE;
        }
    }

    /** A piece made ready to be run: sets of its places, the start among them, go on by atoms. */
    private static final class Runner {
        static final int START = Piece.MOST_PLACES;
        static final int PLACES = START + 1;

        private final int[] go = new int[PLACES * ATOMS];
        private final int[] ends = new int[PLACES];
        private final int[] byAct = new int[MOST_ACTS];

        void take(Piece piece) {
            Arrays.fill(go, 0);
            Arrays.fill(byAct, 0);
            for (int p = 0; p < piece.size && p < START; p++) {
                int act = piece.act[p];
                if (act >= 0 && act < MOST_ACTS) {
                    byAct[act] |= 1 << p;
                }
                ends[p] = piece.out[p];
                link(START, p, piece.in[p]);
                for (int q = 0; q < piece.size; q++) {
                    link(p, q, piece.follow[p * piece.size + q]);
                }
            }
            ends[START] = piece.empty;
        }

        private void link(int p, int q, int atoms) {
            for (int atom = 0; atom < ATOMS; atom++) {
                go[p * ATOMS + atom] |= (atoms >> atom & 1) << q;
            }
        }

        int endsOf(int set) {
            int atoms = 0;
            for (int p = 0; p < PLACES; p++) {
                atoms |= (set >> p & 1) == 0 ? 0 : ends[p];
            }
            return atoms;
        }

        int goes(int set, int atom) {
            int to = 0;
            for (int p = 0; p < PLACES; p++) {
                to |= (set >> p & 1) == 0 ? 0 : go[p * ATOMS + atom];
            }
            return to;
        }

        int actPlaces(int act) {
            return byAct[act];
        }
    }

    /**
     * Runs two pieces side by side, and what facts forbid with them. Situations (which places each
     * of the three can be in) are numbered as they are met, shorter parts first, then in the order
     * of strings: so the first situation in which the two differ tells the first string.
     */
    private static final class Search {
        /** Two pieces of 6 places, facts of 2; the start is the one situation above those. */
        static final int START = 1 << 14;
        static final int START_SET = 1 << Runner.START;
        static final int SITUATIONS = START + 1;
        /** Those in which two programs (5 places each) both are somewhere, and the start. */
        static final int SHARED = 31 * 31 * 4 + 1;

        int met = 0;
        int oneEnds = 0;
        final int[] behind = new int[LETTERS];
        private int otherEnds = 0;
        private final Runner one = new Runner();
        private final Runner other = new Runner();
        private final Runner bar = new Runner();
        private int acts = 0;
        private int atoms = 0;
        private int oneSet = 0;
        private int otherSet = 0;
        private int barSet = 0;
        private int free = 0;
        private int found = 0;
        private int foundAtom = 0;
        /** By situation: its number and 1, or 0 if it has not been met. */
        private final int[] numbers = new int[SITUATIONS];
        private final int[] situations = new int[SITUATIONS];
        /** By number: the number it was met from, times LETTERS, and the letter. */
        private final int[] came = new int[SITUATIONS];
        /** By number, up to met: how many parts of a length lead there; later: of a length more. */
        private final long[] ways = new long[SHARED];
        private final long[] later = new long[SHARED];

        void begin(World world, int facts, Piece x, Piece y) {
            for (int i = 0; i < met && i < SITUATIONS; i++) {
                if (fits(situations[i])) {
                    numbers[situations[i]] = 0;
                }
            }
            met = 0;
            one.take(x);
            other.take(y);
            bar.take(world.bar(facts));
            acts = world.acts < MOST_ACTS ? world.acts : MOST_ACTS;
            atoms = world.atomCount() < ATOMS ? world.atomCount() : ATOMS;
            meet(START, 0, 0);
        }

        /** Situations and their numbers are below the same bound. */
        private static boolean fits(int index) {
            return index >= 0 && index < SITUATIONS;
        }

        /** The number of a situation, which is met from another one by a letter if it is new. */
        private int meet(int situation, int from, int letter) {
            if (!fits(situation)) {
                return NONE;
            }
            if (numbers[situation] == 0 && met < SITUATIONS) {
                situations[met] = situation;
                came[met] = from * LETTERS + letter;
                met++;
                numbers[situation] = met;
            }
            return numbers[situation] - 1;
        }

        /** Puts a situation in hand: oneEnds and otherEnds say with which atoms each can end there. */
        void look(int number) {
            int situation = number >= 0 && number < met ? situations[number] : 0;
            boolean start = situation == START;
            oneSet = start ? START_SET : situation & 63;
            otherSet = start ? START_SET : situation >> 6 & 63;
            // A string of a fact may begin at any atom.
            barSet = START_SET | (start ? 0 : situation >> 12 & 3);
            free = (1 << atoms) - 1 & ~bar.endsOf(barSet);
            oneEnds = one.endsOf(oneSet) & free;
            otherEnds = other.endsOf(otherSet) & free;
        }

        /**
         * Fills behind from the situation in hand: by letter the number of the situation behind it,
         * NONE where neither of the two goes on (or, if they have to share it, not both).
         */
        void goOn(int number, boolean shared) {
            Arrays.fill(behind, NONE);
            for (int atom = 0; atom < ATOMS && atom < atoms; atom++) {
                if ((free >> atom & 1) != 0) {
                    goOnBy(number, atom, shared);
                }
            }
        }

        private void goOnBy(int number, int atom, boolean shared) {
            int x = one.goes(oneSet, atom);
            int y = other.goes(otherSet, atom);
            int z = bar.goes(barSet, atom);
            for (int act = 0; act < MOST_ACTS && act < acts; act++) {
                int xs = x & one.actPlaces(act) & 63;
                int ys = y & other.actPlaces(act) & 63;
                int zs = z & bar.actPlaces(act) & 3;
                boolean some = shared ? xs != 0 && ys != 0 : (xs | ys) != 0;
                if (some) {
                    int letter = atom * MOST_ACTS + act;
                    behind[letter] = meet(xs | ys << 6 | zs << 12, number, letter);
                }
            }
        }

        /** Looks for the first string of just one of the two (or of the first alone). */
        boolean findApart(boolean firstAlone) {
            for (int i = 0; i < SITUATIONS && i < met; i++) {
                look(i);
                int apart = oneEnds & ~otherEnds | (firstAlone ? 0 : otherEnds & ~oneEnds);
                if (apart != 0) {
                    found = i;
                    foundAtom = Integer.numberOfTrailingZeros(apart);
                    return true;
                }
                goOn(i, false);
            }
            return false;
        }

        /** Right behind findApart() that found one: whether the first of the two has the string. */
        boolean foundInOne() {
            return (oneEnds >> foundAtom & 1) != 0;
        }

        int foundLength() {
            int length = 0;
            for (int at = found; at > 0 && at < SITUATIONS && length < SITUATIONS; length++) {
                at = came[at] / LETTERS;
            }
            return length;
        }

        int foundPlace(int k) {
            int length = foundLength();
            if (k < 0 || k > 2 * length) {
                return NONE;
            }
            if (k == 2 * length) {
                return foundAtom;
            }
            int at = found;
            for (int i = length - 1; i > k / 2 && fits(at); i--) {
                at = came[at] / LETTERS;
            }
            int letter = fits(at) ? came[at] % LETTERS : 0;
            return k % 2 == 0 ? letter / MOST_ACTS : letter % MOST_ACTS;
        }

        /** How many strings of a length both have; later is all 0 ahead of it and behind. */
        long countShared(int length) {
            ways[0] = 1;
            for (int done = 0; done < length; done++) {
                goOnAll();
            }
            long strings = 0;
            for (int i = 0; i < SHARED && i < met; i++) {
                look(i);
                strings += ways[i] * Integer.bitCount(oneEnds & otherEnds);
            }
            return strings;
        }

        /** From how many ways lead to each situation to the same by one act more. */
        private void goOnAll() {
            int known = met;
            for (int i = 0; i < SHARED && i < known; i++) {
                if (ways[i] != 0) {
                    look(i);
                    goOn(i, true);
                    addWays(ways[i]);
                }
            }
            for (int i = 0; i < SHARED && i < met; i++) {
                ways[i] = later[i];
                later[i] = 0;
            }
        }

        private void addWays(long more) {
            for (int letter = 0; letter < LETTERS; letter++) {
                int to = behind[letter];
                if (to >= 0 && to < SHARED) {
                    later[to] += more;
                }
            }
        }
    }

    /** The rests of one program, numbered as the document says. */
    private static final class Table {
        /** Situations of one program's 5 places, not none of them, and of the facts' 2; the start. */
        static final int MOST = 31 * 4 + 1;

        int size = 0;
        final int[] ends = new int[MOST];
        final int[] depth = new int[MOST];
        private final int[] targets = new int[MOST * LETTERS];
        /** With which atoms strings of a rest end. */
        private final int[] reach = new int[MOST];
        private Piece piece = null;
        private int facts = 0;

        private int raw = 0;
        private final int[] rawEnds = new int[MOST];
        private final int[] rawTargets = new int[MOST * LETTERS];
        /** By situation: the least one with the same rest, as far as told apart; NONE if it is empty. */
        private final int[] kind = new int[MOST];
        private final int[] finer = new int[MOST];
        private final int[] numbers = new int[MOST];
        private final int[] sample = new int[MOST];

        void forget() {
            piece = null;
        }

        boolean isOf(Piece asked, int askedFacts) {
            return piece == asked && facts == askedFacts;
        }

        /** Of the piece with which the search is begun, alone. */
        void build(Search search, Piece of, int byFacts) {
            piece = of;
            facts = byFacts;
            copy(search);
            leaveOutEmpty();
            tellApart();
            for (int round = 0; round < raw; round++) {
                if (!tellFiner()) {
                    break;
                }
            }
            numberRests();
            gatherReach();
        }

        private void copy(Search search) {
            raw = 0;
            for (int i = 0; i < MOST && i < search.met; i++) {
                search.look(i);
                search.goOn(i, false);
                rawEnds[i] = search.oneEnds;
                for (int letter = 0; letter < LETTERS; letter++) {
                    int to = search.behind[letter];
                    rawTargets[i * LETTERS + letter] = to < MOST ? to : NONE;
                }
                raw = i + 1;
            }
        }

        private void leaveOutEmpty() {
            for (int i = 0; i < raw; i++) {
                kind[i] = rawEnds[i] == 0 ? NONE : 0;
            }
            boolean more = true;
            for (int round = 0; round < raw && more; round++) {
                more = false;
                for (int i = raw - 1; i >= 0; i--) {
                    if (kind[i] == NONE && goesOn(i)) {
                        kind[i] = 0;
                        more = true;
                    }
                }
            }
        }

        private boolean goesOn(int i) {
            for (int letter = 0; letter < LETTERS; letter++) {
                if (kindBehind(i, letter) != NONE) {
                    return true;
                }
            }
            return false;
        }

        private int kindBehind(int i, int letter) {
            int to = rawTargets[i * LETTERS + letter];
            return to < 0 || to >= raw ? NONE : kind[to];
        }

        /** By the atoms that are strings. */
        private void tellApart() {
            for (int i = 0; i < raw; i++) {
                int least = i;
                for (int j = 0; j < i && least == i && kind[i] != NONE; j++) {
                    least = kind[j] != NONE && rawEnds[j] == rawEnds[i] ? j : i;
                }
                kind[i] = kind[i] == NONE ? NONE : least;
            }
        }

        /** By what was told apart already behind each letter; whether that told more apart. */
        private boolean tellFiner() {
            boolean more = false;
            for (int i = 0; i < raw; i++) {
                finer[i] = kind[i] == NONE ? NONE : finerKind(i);
                more |= finer[i] != kind[i];
            }
            System.arraycopy(finer, 0, kind, 0, raw);
            return more;
        }

        private int finerKind(int i) {
            for (int j = kind[i]; j < i; j++) {
                if (finer[j] == j && kind[j] == kind[i] && sameBehind(i, j)) {
                    return j;
                }
            }
            return i;
        }

        private boolean sameBehind(int i, int j) {
            for (int letter = 0; letter < LETTERS; letter++) {
                if (kindBehind(i, letter) != kindBehind(j, letter)) {
                    return false;
                }
            }
            return true;
        }

        private void numberRests() {
            size = 0;
            Arrays.fill(numbers, NONE);
            if (kind[0] == NONE) {
                return;
            }
            numberOf(kind[0], 0);
            for (int k = 0; k < MOST && k < size; k++) {
                ends[k] = rawEnds[sample[k]];
                for (int letter = 0; letter < LETTERS; letter++) {
                    int behind = kindBehind(sample[k], letter);
                    targets[k * LETTERS + letter] = behind == NONE ? NONE : numberOf(behind, depth[k] + 1);
                }
            }
        }

        private int numberOf(int which, int far) {
            if (which < 0 || which >= MOST) {
                return NONE;
            }
            if (numbers[which] == NONE && size < MOST) {
                numbers[which] = size;
                sample[size] = which;
                depth[size] = far;
                size++;
            }
            return numbers[which];
        }

        private void gatherReach() {
            System.arraycopy(ends, 0, reach, 0, size);
            boolean more = true;
            // Each round but the last adds an atom somewhere.
            for (int round = 0; round <= MOST * ATOMS && more; round++) {
                more = false;
                for (int k = size - 1; k >= 0; k--) {
                    int atoms = reach[k];
                    for (int letter = 0; letter < LETTERS; letter++) {
                        int to = targets[k * LETTERS + letter];
                        atoms |= has(to) ? reach[to] : 0;
                    }
                    more |= atoms != reach[k];
                    reach[k] = atoms;
                }
            }
        }

        boolean has(int k) {
            return k >= 0 && k < size;
        }

        int target(int k, int atom, int act) {
            if (!has(k) || atom < 0 || atom >= ATOMS || act < 0 || act >= MOST_ACTS) {
                return NONE;
            }
            return targets[k * LETTERS + atom * MOST_ACTS + act];
        }

        int beginnings() {
            int atoms = 0;
            for (int atom = 0; atom < ATOMS; atom++) {
                atoms |= endingsFrom(1 << atom) == 0 ? 0 : 1 << atom;
            }
            return atoms;
        }

        int endings() {
            return size == 0 ? 0 : reach[0];
        }

        int actsUsed() {
            int used = 0;
            for (int i = 0; i < size * LETTERS; i++) {
                used |= targets[i] < 0 ? 0 : 1 << i % MOST_ACTS;
            }
            return used;
        }

        /** With which atoms strings end that begin with one of a set. */
        int endingsFrom(int ahead) {
            if (size == 0) {
                return 0;
            }
            int atoms = ends[0] & ahead;
            for (int letter = 0; letter < LETTERS; letter++) {
                int to = targets[letter];
                atoms |= has(to) && (ahead >> letter / MOST_ACTS & 1) != 0 ? reach[to] : 0;
            }
            return atoms;
        }

        /** Those of a set of atoms from which every string ends with one behind. */
        int safeAtoms(int ahead, int behind) {
            int safe = 0;
            for (int atom = 0; atom < ATOMS; atom++) {
                int one = ahead & 1 << atom;
                safe |= (endingsFrom(one) & ~behind) == 0 ? one : 0;
            }
            return safe;
        }

        boolean oneWayEach() {
            for (int i = 0; i < size * ATOMS; i++) {
                int ways = ends[i / ATOMS] >> i % ATOMS & 1;
                for (int act = 0; act < MOST_ACTS; act++) {
                    ways += targets[i * MOST_ACTS + act] < 0 ? 0 : 1;
                }
                if (ways > 1) {
                    return false;
                }
            }
            return true;
        }

        /** The greatest length of a string; NONE without strings, or if some go round. */
        int longest() {
            if (size == 0) {
                return NONE;
            }
            // The shortest ways at first, then each time what is longer.
            System.arraycopy(depth, 0, finer, 0, size);
            int length = 0;
            boolean more = true;
            for (int round = 0; round < size && more; round++) {
                more = false;
                for (int i = 0; i < size * LETTERS; i++) {
                    int to = targets[i];
                    if (has(to) && finer[to] <= finer[i / LETTERS]) {
                        finer[to] = finer[i / LETTERS] + 1;
                        length = Math.max(length, finer[to]);
                        more = true;
                    }
                }
                // A way with as many acts as there are rests comes to one of them twice.
                if (length >= size) {
                    return NONE;
                }
            }
            for (int k = 0; k < size; k++) {
                length = Math.max(length, finer[k]);
            }
            return length;
        }
    }

    /** What print() wrote last. */
    private static final class Paper {
        /** A rest takes 6 bytes for 59:255, 5 for each letter, as in 7c59 behind a blank, and 1. */
        final byte[] bytes = new byte[MOST_PRINTED * (6 + 5 * LETTERS + 1)];
        int size = 0;

        void putRest(Table table, int k) {
            if (!table.has(k)) {
                return;
            }
            putNumber(k);
            put(':');
            putNumber(table.ends[k]);
            for (int letter = 0; letter < LETTERS; letter++) {
                int to = table.target(k, letter / MOST_ACTS, letter % MOST_ACTS);
                if (to >= 0) {
                    put(' ');
                    putNumber(letter / MOST_ACTS);
                    put('a' + letter % MOST_ACTS);
                    putNumber(to);
                }
            }
            put(';');
        }

        /** Up to 999. */
        private void putNumber(int number) {
            if (number >= 100) {
                put('0' + number / 100 % 10);
            }
            if (number >= 10) {
                put('0' + number / 10 % 10);
            }
            put('0' + number % 10);
        }

        private void put(int sign) {
            if (size < bytes.length) {
                bytes[size] = (byte) sign;
                size++;
            }
        }
    }
}
