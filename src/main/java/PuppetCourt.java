import java.util.Arrays;

/** A court of puppets; what each promise asks for stands in ../shared/DOC.md. */
public final class PuppetCourt {
    public static final int NONE = -1;

    private static final int NOT = -2;
    private static final int NO_MEASURE = -100;
    private static final int NO_OUTCOME = -1000;

    private static final int TAPE_BYTES = 2000;
    private static final int FED_BYTES = 20;
    private static final int MOST_TOKENS = 400;
    private static final int MOST_PUPPETS = 5;
    private static final int MOST_STRINGS = 7;
    private static final int MOST_CHILDREN = 7;
    private static final int MOST_PRECEDENTS = 12;
    private static final int MOST_TOLD = 20;
    private static final int MOST_UNDONE = 40;
    private static final int MOST_SEEDS = 20;
    private static final int SLOTS = 3;
    private static final int LAST_X = 9;
    private static final int PLACES = 10;
    /** How far ahead the court looks: rows of pulls are this long at most. */
    private static final int FAR = 5;
    /** More than any sum of paint or number of rows can be. */
    private static final int MANY = 1000000;

    private final byte[] tape = new byte[TAPE_BYTES];
    private int taped = 0;
    private int faultPlace = NONE;
    private final Script script = new Script();
    private final Reader reader = new Reader();
    private final Bench bench = new Bench(script);
    private final Course now = new Course();
    private final Past past = new Past();
    private final Play play = new Play(script, bench);
    private final Duel duel = new Duel(script, bench);
    private final Jury panel = new Jury(script, bench);
    private final Cloth curtain = new Cloth(script);

    /** Promise 1. */
    public PuppetCourt() {
    }

    /** Promise 2. */
    public int feed(int a, int b, int c, int d, int e) {
        if (taped > TAPE_BYTES - FED_BYTES) {
            return NONE;
        }
        putWord(a);
        putWord(b);
        putWord(c);
        putWord(d);
        putWord(e);
        return taped;
    }

    private void putWord(int word) {
        for (int shift = 24; shift >= 0; shift -= 8) {
            if (taped < tape.length) {
                tape[taped] = (byte) (word >>> shift);
                taped++;
            }
        }
    }

    /** Promise 3. */
    public int back(int n) {
        if (n < 0 || n > taped) {
            return NONE;
        }
        taped -= n;
        return taped;
    }

    /** Promise 4. */
    public int read() {
        int fault = reader.faultOf(tape, taped);
        taped = 0;
        faultPlace = reader.faultPlace;
        if (fault == 0) {
            script.copyFrom(reader.draft);
            now.begin(script.start);
            past.clear();
            curtain.told = 0;
        }
        return fault;
    }

    /** Promise 5. */
    public int place() {
        return faultPlace;
    }

    /** Promise 6. */
    public int puppet(int puppet, int what) {
        if (!script.hasPuppet(puppet)) {
            return NONE;
        }
        switch (what) {
            case 0:
                return Pose.xOf(now.pose, puppet);
            case 1:
                return Pose.headOf(now.pose, puppet);
            case 2:
                return Pose.handOf(now.pose, puppet);
            case 3:
                return script.paints[puppet];
            case 4:
                return script.stringsOf(puppet);
            default:
                return NONE;
        }
    }

    /** Promise 7. */
    public int string(int string, int what) {
        if (!script.hasString(string)) {
            return NO_MEASURE;
        }
        switch (what) {
            case 0:
                return script.owners[string];
            case 1:
                return script.sides[string];
            case 2:
                return script.moves[string];
            case 3:
                return script.turns[string];
            case 4:
                return now.pulled[string];
            default:
                return NO_MEASURE;
        }
    }

    /** Promise 8. */
    public int court(int what) {
        switch (what) {
            case 0:
                return now.side;
            case 1:
                return now.pulls;
            case 2:
                return Pose.apart(now.pose);
            case 3:
                return script.tanglesIn(now.pose);
            case 4:
                return Pose.nods(now.pose);
            case 5:
                return now.verdict;
            default:
                return NO_MEASURE;
        }
    }

    /** Promise 9. */
    public int may(int string) {
        if (!script.hasString(string)) {
            return NONE;
        }
        return mayBy(now.side, string) ? 1 : 0;
    }

    private boolean mayBy(int side, int string) {
        return now.verdict == 0 && bench.allows(now.pose, now.pulls, side, string);
    }

    /** Promise 10. */
    public int pull(int string) {
        if (!script.hasString(string)) {
            return NONE;
        }
        if (!mayBy(now.side, string)) {
            return NOT;
        }
        past.remember(now);
        int drawn = string;
        if (script.stormsAt(script.seed, now.allPulls)) {
            now.storms++;
            drawn = script.drawnAt(script.seed, now.allPulls);
        }
        now.moveBy(script.moved(now.pose, drawn), drawn);
        endTurn();
        return now.verdict;
    }

    private void endTurn() {
        now.turnOver();
        int verdict = bench.verdictOn(now.pose, now.pulls);
        if (verdict != 0) {
            now.close(Pose.apart(now.pose), script.tanglesIn(now.pose), verdict);
        }
    }

    /** Promise 11. */
    public int pass() {
        if (now.verdict != 0) {
            return NOT;
        }
        past.remember(now);
        endTurn();
        return now.pulls;
    }

    /** Promise 12. */
    public int open() {
        past.remember(now);
        now.openCase(script.start);
        return now.cases;
    }

    /** Promise 13. */
    public boolean undo() {
        return past.takeBack(now);
    }

    /** Promise 14. */
    public int after(int string, int what) {
        if (!script.hasString(string) || !mayBy(now.side, string)) {
            return NO_OUTCOME;
        }
        int pose = script.moved(now.pose, string);
        switch (what) {
            case 0:
                return script.tanglesIn(pose);
            case 1:
                return Pose.apart(pose);
            case 2:
                return bench.verdictOn(pose, now.pulls + 1);
            default:
                return NO_OUTCOME;
        }
    }

    /** Promise 15. */
    public int shortest(int v, int what) {
        if (v < 1 || v > 2 || what < 0 || what > 1) {
            return NONE;
        }
        play.aimAt(Play.TO_VERDICT, v, NONE);
        int pulls = play.fewest(now);
        return what == 0 || pulls == NOT ? pulls : play.firstString;
    }

    /** Promise 16. */
    public int force(int side, int n) {
        if (side < 0 || side > 1 || n < 1 || n > FAR) {
            return NONE;
        }
        return duel.forces(now, side, n) ? 1 : 0;
    }

    /** Promise 17. */
    public int straight() {
        play.aimAt(Play.TO_NO_TANGLES, 0, NONE);
        return play.fewest(now);
    }

    /** Promise 18. */
    public int reach(int puppet, int x) {
        if (!script.hasPuppet(puppet) || x < 0 || x > LAST_X) {
            return NONE;
        }
        play.aimAt(Play.TO_PLACE, x, puppet);
        return play.fewest(now);
    }

    /** Promise 19. */
    public int strong(int n) {
        if (n < 1 || n > FAR) {
            return NONE;
        }
        return duel.strongString(now, n);
    }

    /** Promise 20. */
    public int free(int side) {
        if (side < 0 || side > 1) {
            return NONE;
        }
        int free = 0;
        for (int i = 0; i < script.strings; i++) {
            if (mayBy(side, i)) {
                free++;
            }
        }
        return free;
    }

    /** Promise 21. */
    public int worn() {
        int most = 0;
        int worn = NOT;
        for (int i = 0; i < now.pulled.length; i++) {
            if (now.pulled[i] > most) {
                most = now.pulled[i];
                worn = i;
            }
        }
        return worn;
    }

    /** Promise 22. */
    public int verdicts() {
        panel.poll(now);
        return panel.likeliest();
    }

    /** Promise 23. */
    public int half(boolean below) {
        panel.poll(now);
        return panel.share(panel.waysOfMost(), below);
    }

    /** Promise 24. */
    public int jury(int m, boolean below) {
        if (m < 0 || m > script.children) {
            return NONE;
        }
        panel.poll(now);
        return panel.share(panel.waysOf(m), below);
    }

    /** Promise 25. */
    public int precedent(int i, int what) {
        if (i == NONE) {
            return now.kept;
        }
        if (!now.hasPrecedent(i)) {
            return NO_OUTCOME;
        }
        switch (what) {
            case 0:
                return now.aparts[i];
            case 1:
                return now.tangles[i];
            case 2:
                return now.rulings[i];
            default:
                return NO_OUTCOME;
        }
    }

    /** Promise 26. */
    public int nearest(int what) {
        if (what < 0 || what > 2) {
            return NONE;
        }
        int apart = Pose.apart(now.pose);
        int tangles = script.tanglesIn(now.pose);
        int which = now.nearestTo(apart, tangles);
        if (!now.hasPrecedent(which)) {
            return NOT;
        }
        if (what == 0) {
            return which;
        }
        return what == 1 ? now.distance(which, apart, tangles) : now.rulings[which];
    }

    /** Promise 27. */
    public int clashes() {
        return now.clashing();
    }

    /** Promise 28. */
    public int paint(int part) {
        if (part < NONE || part > 2) {
            return NONE;
        }
        if (script.puppets < 3) {
            return NOT;
        }
        return script.bestPainted(part);
    }

    /** Promise 29. */
    public int storms(int string, int v, int s) {
        if (!script.hasString(string) || v < 0 || v > 2 || s < 1 || s > MOST_SEEDS) {
            return NONE;
        }
        if (!mayBy(now.side, string)) {
            return NOT;
        }
        int found = 0;
        for (int i = 0; i < s; i++) {
            if (verdictBySeed(string, script.seed + i) == v) {
                found++;
            }
        }
        return found;
    }

    private int verdictBySeed(int string, int seed) {
        int drawn = script.stormsAt(seed, now.allPulls) ? script.drawnAt(seed, now.allPulls) : string;
        int pose = script.moved(now.pose, drawn);
        return bench.verdictOn(pose == NONE ? now.pose : pose, now.pulls + 1);
    }

    /** Promise 30. */
    public int tell(int puppet, int n, int x) {
        if (!script.hasPuppet(puppet) || n < 1 || n > FAR || x < 0 || x > LAST_X) {
            return NONE;
        }
        return curtain.add(puppet, n, x);
    }

    /** Promise 31. */
    public int forget() {
        int told = curtain.told;
        curtain.told = 0;
        return told;
    }

    /** Promise 32. */
    public int cloth(int k, int n) {
        if (!curtain.asks(k, n)) {
            return NONE;
        }
        curtain.walk(now.pose, k, n);
        return curtain.rows;
    }

    /** Promise 33. */
    public int sure(int k, int n, int i) {
        if (!curtain.asks(k, n) || i < 0 || i >= n) {
            return NONE;
        }
        curtain.walk(now.pose, k, n);
        return curtain.rows == 0 ? NOT : curtain.common[i];
    }

    /** Promise 34. */
    public int look(int k, int n) {
        if (!curtain.asks(k, n)) {
            return NONE;
        }
        curtain.walk(now.pose, k, n);
        return curtain.rows == 0 ? NOT : curtain.tellingPuppet();
    }

    /** Promise 35. */
    public boolean hold(int slot) {
        return past.putInSlot(slot, now);
    }

    /** Promise 36. */
    public boolean restore(int slot) {
        return past.takeFromSlot(slot, now);
    }

    /** Promise 37. */
    public int count(int what) {
        switch (what) {
            case 0:
                return script.puppets;
            case 1:
                return script.strings;
            case 2:
                return script.children;
            case 3:
                return now.cases;
            case 4:
                return now.allPulls;
            case 5:
                return now.kept;
            case 6:
                return now.storms;
            case 7:
                return taped;
            case 8:
                return past.size;
            case 9:
                return curtain.told;
            case 10:
                return past.slotsHeld();
            case 11:
                return now.wonFirst;
            case 12:
                return now.wonSecond;
            case 13:
                return mayBits();
            case 14:
                return now.verdict != 0 ? 1 : 0;
            default:
                return NONE;
        }
    }

    private int mayBits() {
        int bits = 0;
        for (int i = 0; i < script.strings; i++) {
            if (mayBy(now.side, i)) {
                bits |= 1 << i;
            }
        }
        return bits;
    }

    /**
     * How all puppets stand, in one int, so that looking ahead makes no objects:
     * four bits of X for each puppet, then a bit for each head, then one for each hand.
     */
    private static final class Pose {
        private static final int X_BITS = 4;
        private static final int X_MASK = 15;
        private static final int HEADS = X_BITS * MOST_PUPPETS;
        private static final int HANDS = HEADS + MOST_PUPPETS;
        private static final int HEADS_MASK = (1 << MOST_PUPPETS) - 1;
        private static final int JUDGE = 2;

        static int xOf(int pose, int puppet) {
            return (pose >>> (X_BITS * puppet)) & X_MASK;
        }

        static int headOf(int pose, int puppet) {
            return (pose >>> (HEADS + puppet)) & 1;
        }

        static int handOf(int pose, int puppet) {
            return (pose >>> (HANDS + puppet)) & 1;
        }

        /** A puppet that there is not has X 0 in every pose, as 'apart' wants it. */
        static int apart(int pose) {
            return xOf(pose, 1) - xOf(pose, 0);
        }

        static int nods(int pose) {
            return Integer.bitCount((pose >>> HEADS) & HEADS_MASK);
        }

        static int judgesHand(int pose) {
            return handOf(pose, JUDGE);
        }

        static int shifted(int pose, int puppet, int by) {
            return pose + (by << (X_BITS * puppet));
        }

        static int turned(int pose, int puppet, int turns) {
            return pose ^ ((turns & 1) << (HEADS + puppet)) ^ ((turns >> 1) << (HANDS + puppet));
        }
    }

    /** A text cut into tokens, which are then shown one at a time. */
    private static final class Tokens {
        /** The words in quotes; a word's kind is its place here. */
        private static final String WORDS =
            "puppet string child order verdict votes storm seed if then else apart tangles pulls nods side hand seat which at ";
        private static final int WORD_COUNT = 20;
        private static final int MOST_LETTERS = 8;
        /** A name of eight letters fits into a long so, and no two are alike. */
        private static final int LETTER_BITS = 5;
        private static final int BEFORE_A = 'a' - 1;
        private static final int MOST_DIGITS = 4;
        static final int PUPPET = 0;
        static final int STRING = 1;
        static final int CHILD = 2;
        static final int ORDER = 3;
        static final int VERDICT = 4;
        static final int VOTES = 5;
        static final int STORM = 6;
        static final int SEED = 7;
        static final int IF = 8;
        static final int THEN = 9;
        static final int ELSE = 10;
        static final int FIRST_VAR = 11;
        static final int LAST_VAR = 19;
        static final int NAME = 20;
        static final int INT = 21;
        static final int END = 22;
        static final int BAD = 23;
        /** The kind of a sign is its own byte, which is above all of these. */
        private static final String SIGNS = ";=+-*/<()";
        /** One more than a text may have: that one is a fault, and none behind it is looked at. */
        private static final int MOST_CUT = MOST_TOKENS + 1;

        private final long[] words = new long[WORD_COUNT];
        private final int[] kinds = new int[MOST_CUT];
        private final int[] places = new int[MOST_CUT];
        private final long[] values = new long[MOST_CUT];
        private byte[] text = new byte[0];
        private int length = 0;
        private int next = 0;
        private int shown = NONE;
        int kind = END;
        int place = 0;
        /** An int's number, or a name's letters. */
        long value = 0;

        Tokens() {
            int word = 0;
            long code = 0;
            for (int i = 0; i < WORDS.length() && word < WORD_COUNT; i++) {
                char c = WORDS.charAt(i);
                if (c == ' ') {
                    words[word] = code;
                    word++;
                    code = 0;
                } else {
                    code = (code << LETTER_BITS) + (c - BEFORE_A);
                }
            }
        }

        /** Cuts a text and shows its first token, which is its end if it has none. */
        void cut(byte[] bytes, int count) {
            text = bytes;
            length = Math.min(count, bytes.length);
            next = 0;
            for (int i = 0; i < MOST_CUT; i++) {
                cutOne();
                kinds[i] = kind;
                places[i] = place;
                values[i] = value;
            }
            shown = NONE;
            showNext();
        }

        void showNext() {
            int following = shown + 1;
            if (following >= 0 && following < MOST_CUT) {
                shown = following;
                kind = kinds[following];
                place = places[following];
                value = values[following];
            }
        }

        private void cutOne() {
            while (next < length && isBlank(text[next])) {
                next++;
            }
            place = next;
            value = 0;
            if (next >= length) {
                kind = END;
            } else if (text[next] >= 'a' && text[next] <= 'z') {
                cutLetters();
            } else if (text[next] >= '0' && text[next] <= '9') {
                cutDigits();
            } else {
                int sign = text[next] & 255;
                kind = SIGNS.indexOf((char) sign) >= 0 ? sign : BAD;
                next++;
            }
        }

        private static boolean isBlank(int c) {
            return c == 9 || c == 10 || c == 13 || c == 32;
        }

        private void cutLetters() {
            while (next < length && text[next] >= 'a' && text[next] <= 'z') {
                value = (value << LETTER_BITS) + (text[next] - BEFORE_A);
                next++;
            }
            kind = next - place > MOST_LETTERS ? BAD : NAME;
            for (int i = 0; i < words.length && kind == NAME; i++) {
                if (words[i] == value) {
                    kind = i;
                }
            }
        }

        private void cutDigits() {
            while (next < length && text[next] >= '0' && text[next] <= '9') {
                value = 10 * value + (text[next] - '0');
                next++;
            }
            kind = next - place > MOST_DIGITS ? BAD : INT;
        }
    }

    /** The three laws as steps for a machine with a stack, one law behind the other. */
    private static final class Book {
        static final int NUMBER = 0;
        static final int VAR = 1;
        static final int PLUS = 2;
        static final int MINUS = 3;
        static final int TIMES = 4;
        static final int DIVIDE = 5;
        /** Goes on at its number, unless the one below on the stack is less than the one on top. */
        static final int UNLESS_LESS = 6;
        static final int ANSWER = 7;
        private static final int OP_BITS = 3;
        private static final int OP_MASK = 7;
        private static final int LAWS = 3;
        private static final int USUAL_STEPS = 2 * LAWS;
        /** Six brackets hold two values each, a comparison one more. */
        private static final int STACK = 32;

        private final int[] steps = new int[MOST_TOKENS + USUAL_STEPS];
        private final int[] starts = new int[LAWS];
        private final int[] stack = new int[STACK];
        int size = 0;

        /** The laws that hold if none is told. */
        void clear() {
            size = 0;
            startLaw(Script.ORDER);
            addStep(NUMBER, 1);
            addStep(ANSWER, 0);
            startLaw(Script.VERDICT);
            addStep(NUMBER, 0);
            addStep(ANSWER, 0);
            startLaw(Script.VOTES);
            addStep(NUMBER, 5);
            addStep(ANSWER, 0);
        }

        void copyFrom(Book other) {
            System.arraycopy(other.steps, 0, steps, 0, steps.length);
            System.arraycopy(other.starts, 0, starts, 0, starts.length);
            size = other.size;
        }

        void startLaw(int law) {
            if (law >= 0 && law < starts.length) {
                starts[law] = size;
            }
        }

        /** No law has more steps than tokens, so there is always room. */
        void addStep(int op, int number) {
            if (size < steps.length) {
                steps[size] = op | (number << OP_BITS);
                size++;
            }
        }

        /** The step at 'from' goes on behind the last step so far. */
        void landHere(int from) {
            if (from >= 0 && from < size) {
                steps[from] = (steps[from] & OP_MASK) | (size << OP_BITS);
            }
        }

        int valueOf(int law, int[] vars) {
            if (law < 0 || law >= starts.length) {
                return 0;
            }
            int at = starts[law];
            int top = 0;
            // Steps only lead forwards, so none is done twice.
            for (int done = 0; done < size && at >= 0 && at < size; done++) {
                int op = steps[at] & OP_MASK;
                int number = steps[at] >>> OP_BITS;
                at++;
                if (op == NUMBER || op == VAR) {
                    if (top >= stack.length || (op == VAR && number >= vars.length)) {
                        return 0;
                    }
                    stack[top] = op == VAR ? vars[number] : number;
                    top++;
                } else if (op == ANSWER) {
                    return top == 1 ? stack[0] : 0;
                } else if (top < 2) {
                    return 0;
                } else if (op == UNLESS_LESS) {
                    top -= 2;
                    at = stack[top] < stack[top + 1] ? at : number;
                } else {
                    top--;
                    if (op == DIVIDE && stack[top] == 0) {
                        return 0;
                    }
                    stack[top - 1] = joined(op, stack[top - 1], stack[top]);
                }
            }
            return 0;
        }

        private static int joined(int op, int left, int right) {
            switch (op) {
                case PLUS:
                    return left + right;
                case MINUS:
                    return left - right;
                case TIMES:
                    return left * right;
                default:
                    return right == 0 ? 0 : left / right;
            }
        }
    }

    /** What a text tells. */
    private static final class Script {
        static final int ORDER = 0;
        static final int VERDICT = 1;
        static final int VOTES = 2;
        private static final int LOT_SALT = 87;
        private static final int PARTS = 3;

        int puppets = 0;
        int strings = 0;
        int children = 0;
        int storm = 0;
        int seed = 0;
        /** The pose in which every case begins. */
        int start = 0;
        final int[] paints = new int[MOST_PUPPETS];
        final int[] owners = new int[MOST_STRINGS];
        final int[] sides = new int[MOST_STRINGS];
        final int[] moves = new int[MOST_STRINGS];
        final int[] turns = new int[MOST_STRINGS];
        final int[] seats = new int[MOST_CHILDREN];
        final Book book = new Book();
        private final int[] cast = new int[PARTS];

        Script() {
            clear();
        }

        void clear() {
            puppets = 0;
            strings = 0;
            children = 0;
            storm = 0;
            seed = 0;
            start = 0;
            book.clear();
        }

        void copyFrom(Script other) {
            puppets = other.puppets;
            strings = other.strings;
            children = other.children;
            storm = other.storm;
            seed = other.seed;
            start = other.start;
            System.arraycopy(other.paints, 0, paints, 0, paints.length);
            System.arraycopy(other.owners, 0, owners, 0, owners.length);
            System.arraycopy(other.sides, 0, sides, 0, sides.length);
            System.arraycopy(other.moves, 0, moves, 0, moves.length);
            System.arraycopy(other.turns, 0, turns, 0, turns.length);
            System.arraycopy(other.seats, 0, seats, 0, seats.length);
            book.copyFrom(other.book);
        }

        boolean hasPuppet(int puppet) {
            return puppet >= 0 && puppet < puppets && puppet < MOST_PUPPETS;
        }

        boolean hasString(int string) {
            return string >= 0 && string < strings && string < MOST_STRINGS;
        }

        boolean hasChild(int child) {
            return child >= 0 && child < children && child < MOST_CHILDREN;
        }

        int stringsOf(int puppet) {
            int found = 0;
            for (int i = 0; i < strings && i < owners.length; i++) {
                if (owners[i] == puppet) {
                    found++;
                }
            }
            return found;
        }

        /** The pose behind a pull, NONE if the puppet would leave the stage. */
        int moved(int pose, int string) {
            if (!hasString(string)) {
                return NONE;
            }
            int puppet = owners[string];
            int x = Pose.xOf(pose, puppet) + moves[string];
            if (x < 0 || x > LAST_X) {
                return NONE;
            }
            return Pose.turned(Pose.shifted(pose, puppet, moves[string]), puppet, turns[string]);
        }

        int tanglesIn(int pose) {
            int tangles = 0;
            for (int left = 0; left < puppets; left++) {
                int x = Pose.xOf(pose, left);
                for (int right = left + 1; right < puppets; right++) {
                    if (x > Pose.xOf(pose, right)) {
                        tangles++;
                    }
                }
            }
            return tangles;
        }

        boolean stormsAt(int someSeed, int pullsAhead) {
            return lot(100, someSeed, 4 * pullsAhead) < storm;
        }

        int drawnAt(int someSeed, int pullsAhead) {
            return lot(strings, someSeed, 4 * pullsAhead + 1);
        }

        private static int lot(int n, int someSeed, int which) {
            int h = stirred(stirred(someSeed, LOT_SALT), which);
            return n > 0 ? (h >>> 1) % n : 0;
        }

        private static int stirred(int h, int by) {
            int mixed = (h ^ by) * 1103515245 + 12345;
            return mixed ^ (mixed >>> 15);
        }

        /** The least sum of differences of paint (part NONE), or who plays the part then. */
        int bestPainted(int part) {
            int best = MANY;
            for (int a = 0; a < puppets && a < paints.length; a++) {
                for (int b = 0; b < puppets && b < paints.length; b++) {
                    for (int c = 0; c < puppets && c < paints.length; c++) {
                        int sum = paintGap(a, 0) + paintGap(b, 1) + paintGap(c, 2);
                        if (a != b && a != c && b != c && sum < best) {
                            best = sum;
                            cast[0] = a;
                            cast[1] = b;
                            cast[2] = c;
                        }
                    }
                }
            }
            return part < 0 || part >= cast.length ? best : cast[part];
        }

        private int paintGap(int puppet, int part) {
            return hasPuppet(puppet) ? Math.abs(paints[puppet] - (9 - 4 * part)) : 0;
        }
    }

    /** Reads a text into a draft; the draft is of use only if there was no fault. */
    private static final class Reader {
        private static final int SYNTAX = 1;
        private static final int ROOM = 2;
        private static final int TWICE = 3;
        private static final int NO_SUCH_NAME = 4;
        private static final int WRONG = 5;
        private static final int MOST_IFS = 4;
        private static final int MOST_BRACKETS = 6;

        private final Tokens tokens = new Tokens();
        private final long[] names = new long[MOST_PUPPETS + MOST_STRINGS];
        /** The puppet of each name, NONE for a string's. */
        private final int[] bearers = new int[MOST_PUPPETS + MOST_STRINGS];
        private int named = 0;
        private int taken = 0;
        private int number = 0;
        private int fault = 0;
        final Script draft = new Script();
        int faultPlace = NONE;

        int faultOf(byte[] text, int length) {
            draft.clear();
            named = 0;
            taken = 0;
            fault = 0;
            faultPlace = NONE;
            tokens.cut(text, length);
            boolean goesOn = true;
            for (int tells = 0; tells <= MOST_TOKENS && goesOn && tokens.kind != Tokens.END; tells++) {
                switch (tokens.kind) {
                    case Tokens.PUPPET:
                        goesOn = puppetTold();
                        break;
                    case Tokens.STRING:
                        goesOn = stringTold();
                        break;
                    case Tokens.CHILD:
                        goesOn = childTold();
                        break;
                    case Tokens.ORDER:
                        goesOn = lawTold(Script.ORDER);
                        break;
                    case Tokens.VERDICT:
                        goesOn = lawTold(Script.VERDICT);
                        break;
                    case Tokens.VOTES:
                        goesOn = lawTold(Script.VOTES);
                        break;
                    case Tokens.STORM:
                        goesOn = stormTold();
                        break;
                    case Tokens.SEED:
                        goesOn = seedTold();
                        break;
                    default:
                        goesOn = fail(SYNTAX);
                }
            }
            return fault;
        }

        /** A fault that ends the reading: it goes before all those of meaning. */
        private boolean fail(int kind) {
            fault = kind;
            faultPlace = tokens.place;
            return false;
        }

        /** A fault of meaning: the first one stays, and the reading goes on. */
        private void note(int kind) {
            if (fault == 0) {
                fault = kind;
                faultPlace = tokens.place;
            }
        }

        /** Takes a token that is in its place. */
        private boolean step() {
            if (taken >= MOST_TOKENS) {
                return fail(ROOM);
            }
            taken++;
            tokens.showNext();
            return true;
        }

        private boolean take(int kind) {
            return tokens.kind == kind ? step() : fail(SYNTAX);
        }

        /** An int of at most 'most', which then stands in 'number'. */
        private boolean takeInt(int most) {
            if (tokens.kind != Tokens.INT) {
                return fail(SYNTAX);
            }
            number = (int) tokens.value;
            if (number > most) {
                note(WRONG);
            }
            return step();
        }

        /** A name that is told here. */
        private boolean takeNewName(int puppet) {
            if (tokens.kind != Tokens.NAME) {
                return fail(SYNTAX);
            }
            if (indexOfName() != NONE) {
                note(TWICE);
            }
            if (named < names.length) {
                names[named] = tokens.value;
                bearers[named] = puppet;
                named++;
            }
            return step();
        }

        /** The name of a puppet, whose number then stands in 'number'. */
        private boolean takePuppetName() {
            if (tokens.kind != Tokens.NAME) {
                return fail(SYNTAX);
            }
            int index = indexOfName();
            number = index >= 0 && index < bearers.length ? bearers[index] : NONE;
            if (number == NONE) {
                note(NO_SUCH_NAME);
            }
            return step();
        }

        private int indexOfName() {
            for (int i = 0; i < named && i < names.length; i++) {
                if (names[i] == tokens.value) {
                    return i;
                }
            }
            return NONE;
        }

        private boolean puppetTold() {
            int puppet = draft.puppets;
            if (puppet >= MOST_PUPPETS) {
                return fail(ROOM);
            }
            if (!step() || !takeNewName(puppet) || !takeInt(LAST_X)) {
                return false;
            }
            draft.start = Pose.shifted(draft.start, puppet, number);
            if (!takeInt(9)) {
                return false;
            }
            draft.paints[puppet] = number;
            draft.puppets++;
            return take(';');
        }

        private boolean stringTold() {
            int string = draft.strings;
            if (string >= MOST_STRINGS) {
                return fail(ROOM);
            }
            if (!step() || !takeNewName(NONE) || !takePuppetName()) {
                return false;
            }
            draft.owners[string] = number;
            if (!takeInt(2)) {
                return false;
            }
            draft.sides[string] = number;
            boolean leftwards = tokens.kind == '-';
            if (leftwards && !step()) {
                return false;
            }
            if (!takeInt(9)) {
                return false;
            }
            draft.moves[string] = leftwards ? -number : number;
            if (!takeInt(3)) {
                return false;
            }
            draft.turns[string] = number;
            draft.strings++;
            return take(';');
        }

        private boolean childTold() {
            int child = draft.children;
            if (child >= MOST_CHILDREN) {
                return fail(ROOM);
            }
            if (!step() || !takeInt(9)) {
                return false;
            }
            draft.seats[child] = number;
            draft.children++;
            return take(';');
        }

        private boolean stormTold() {
            if (!step() || !takeInt(100)) {
                return false;
            }
            draft.storm = number;
            return take(';');
        }

        private boolean seedTold() {
            if (!step() || !takeInt(9999)) {
                return false;
            }
            draft.seed = number;
            return take(';');
        }

        private boolean lawTold(int law) {
            if (!step() || !take('=')) {
                return false;
            }
            Book book = draft.book;
            book.startLaw(law);
            for (int ifs = 0; ifs <= MOST_IFS && tokens.kind == Tokens.IF; ifs++) {
                if (ifs == MOST_IFS) {
                    return fail(ROOM);
                }
                if (!step() || !sum(0) || !take('<') || !sum(0)) {
                    return false;
                }
                int fork = book.size;
                book.addStep(Book.UNLESS_LESS, 0);
                if (!take(Tokens.THEN) || !sum(0) || !take(Tokens.ELSE)) {
                    return false;
                }
                book.addStep(Book.ANSWER, 0);
                book.landHere(fork);
            }
            if (!sum(0)) {
                return false;
            }
            book.addStep(Book.ANSWER, 0);
            return take(';');
        }

        private boolean sum(int brackets) {
            boolean fine = product(brackets);
            for (int i = 0; i < MOST_TOKENS && fine && (tokens.kind == '+' || tokens.kind == '-'); i++) {
                int op = tokens.kind == '+' ? Book.PLUS : Book.MINUS;
                fine = step() && product(brackets);
                draft.book.addStep(op, 0);
            }
            return fine;
        }

        private boolean product(int brackets) {
            boolean fine = unit(brackets);
            for (int i = 0; i < MOST_TOKENS && fine && (tokens.kind == '*' || tokens.kind == '/'); i++) {
                int op = tokens.kind == '*' ? Book.TIMES : Book.DIVIDE;
                fine = step() && unit(brackets);
                draft.book.addStep(op, 0);
            }
            return fine;
        }

        private boolean unit(int brackets) {
            if (tokens.kind == Tokens.INT) {
                draft.book.addStep(Book.NUMBER, (int) tokens.value);
                return step();
            }
            if (tokens.kind >= Tokens.FIRST_VAR && tokens.kind <= Tokens.LAST_VAR) {
                draft.book.addStep(Book.VAR, tokens.kind - Tokens.FIRST_VAR);
                return step();
            }
            if (tokens.kind != '(') {
                return fail(SYNTAX);
            }
            if (brackets >= MOST_BRACKETS) {
                return fail(ROOM);
            }
            if (!step() || !sum(brackets + 1)) {
                return false;
            }
            // Not by take(): that would be a call deeper than LANGUAGE.md allows.
            return tokens.kind == ')' ? step() : fail(SYNTAX);
        }
    }

    /** Tells what the laws say of a pose. */
    private static final class Bench {
        private static final int VARS = 9;
        private static final int APART = 0;
        private static final int TANGLES = 1;
        private static final int PULLS = 2;
        private static final int NODS = 3;
        private static final int SIDE = 4;
        private static final int HAND = 5;
        private static final int SEAT = 6;
        private static final int WHICH = 7;
        private static final int AT = 8;

        private final Script script;
        private final int[] vars = new int[VARS];

        Bench(Script ofScript) {
            script = ofScript;
        }

        /** What all three laws know; what only some do is 0 until it is set. */
        private void set(int pose, int pulls) {
            vars[APART] = Pose.apart(pose);
            vars[TANGLES] = script.tanglesIn(pose);
            vars[PULLS] = pulls;
            vars[NODS] = Pose.nods(pose);
            vars[HAND] = Pose.judgesHand(pose);
            vars[SIDE] = 0;
            vars[SEAT] = 0;
            vars[WHICH] = 0;
            vars[AT] = 0;
        }

        /** Whether a side may pull a string in an open case. */
        boolean allows(int pose, int pulls, int side, int string) {
            if (!script.hasString(string)) {
                return false;
            }
            int whose = script.sides[string];
            if ((whose != side && whose != 2) || script.moved(pose, string) == NONE) {
                return false;
            }
            set(pose, pulls);
            vars[SIDE] = side;
            vars[WHICH] = string;
            vars[AT] = Pose.xOf(pose, script.owners[string]);
            return script.book.valueOf(Script.ORDER, vars) > 0;
        }

        int verdictOn(int pose, int pulls) {
            set(pose, pulls);
            int told = script.book.valueOf(Script.VERDICT, vars);
            return told < 0 ? 0 : told % 3;
        }

        /** In how many of ten a child votes for the plaintiff. */
        int votesOf(int pose, int pulls, int child) {
            if (!script.hasChild(child)) {
                return 0;
            }
            set(pose, pulls);
            vars[SEAT] = script.seats[child];
            vars[WHICH] = child;
            return Math.max(0, Math.min(10, script.book.valueOf(Script.VOTES, vars)));
        }
    }

    /** All that goes on: the case, what was pulled so far, the precedents. */
    private static final class Course {
        int pose = 0;
        int pulls = 0;
        int side = 0;
        int verdict = 0;
        int cases = 1;
        int allPulls = 0;
        int storms = 0;
        int wonFirst = 0;
        int wonSecond = 0;
        int kept = 0;
        final int[] pulled = new int[MOST_STRINGS];
        final int[] aparts = new int[MOST_PRECEDENTS];
        final int[] tangles = new int[MOST_PRECEDENTS];
        final int[] rulings = new int[MOST_PRECEDENTS];

        /** As a new text has it. */
        void begin(int start) {
            cases = 0;
            allPulls = 0;
            storms = 0;
            wonFirst = 0;
            wonSecond = 0;
            kept = 0;
            Arrays.fill(pulled, 0);
            openCase(start);
        }

        void openCase(int start) {
            pose = start;
            pulls = 0;
            side = 0;
            verdict = 0;
            cases++;
        }

        void copyFrom(Course other) {
            pose = other.pose;
            pulls = other.pulls;
            side = other.side;
            verdict = other.verdict;
            cases = other.cases;
            allPulls = other.allPulls;
            storms = other.storms;
            wonFirst = other.wonFirst;
            wonSecond = other.wonSecond;
            kept = other.kept;
            System.arraycopy(other.pulled, 0, pulled, 0, pulled.length);
            System.arraycopy(other.aparts, 0, aparts, 0, aparts.length);
            System.arraycopy(other.tangles, 0, tangles, 0, tangles.length);
            System.arraycopy(other.rulings, 0, rulings, 0, rulings.length);
        }

        /** A string's pull; with no pose to go to (a storm may draw such a string) none is pulled. */
        void moveBy(int newPose, int string) {
            if (newPose != NONE && string >= 0 && string < pulled.length) {
                pose = newPose;
                pulled[string]++;
            }
        }

        void turnOver() {
            pulls++;
            allPulls++;
            side = 1 - side;
        }

        void close(int apart, int tangled, int ruling) {
            verdict = ruling;
            if (ruling == 1) {
                wonFirst++;
            } else {
                wonSecond++;
            }
            if (kept < 0 || kept >= MOST_PRECEDENTS) {
                dropOldest();
            }
            aparts[kept] = apart;
            tangles[kept] = tangled;
            rulings[kept] = ruling;
            kept++;
        }

        private void dropOldest() {
            kept = MOST_PRECEDENTS - 1;
            System.arraycopy(aparts, 1, aparts, 0, kept);
            System.arraycopy(tangles, 1, tangles, 0, kept);
            System.arraycopy(rulings, 1, rulings, 0, kept);
        }

        boolean hasPrecedent(int i) {
            return i >= 0 && i < kept && i < MOST_PRECEDENTS;
        }

        int distance(int i, int apart, int tangled) {
            if (!hasPrecedent(i)) {
                return 0;
            }
            return Math.abs(aparts[i] - apart) + Math.abs(tangles[i] - tangled);
        }

        /** The nearest precedent, the latest of alike ones; NONE if there are none. */
        int nearestTo(int apart, int tangled) {
            int nearest = NONE;
            for (int i = 0; i < kept; i++) {
                if (nearest == NONE || distance(i, apart, tangled) <= distance(nearest, apart, tangled)) {
                    nearest = i;
                }
            }
            return nearest;
        }

        int clashing() {
            int pairs = 0;
            for (int i = 0; i < kept && i < MOST_PRECEDENTS; i++) {
                for (int j = 0; j < i; j++) {
                    if (distance(j, aparts[i], tangles[i]) == 0 && rulings[j] != rulings[i]) {
                        pairs++;
                    }
                }
            }
            return pairs;
        }
    }

    /** What can be undone, and what the slots hold. */
    private static final class Past {
        /** A ring; its courses are made when first wanted and then used again. */
        private final Course[] ring = new Course[MOST_UNDONE];
        private final Course[] slots = new Course[SLOTS];
        private int heldBits = 0;
        private int next = 0;
        int size = 0;

        void clear() {
            size = 0;
            heldBits = 0;
        }

        void remember(Course now) {
            if (next < 0 || next >= ring.length) {
                next = 0;
            }
            if (ring[next] == null) {
                ring[next] = new Course();
            }
            ring[next].copyFrom(now);
            next = (next + 1) % MOST_UNDONE;
            size = Math.min(size + 1, MOST_UNDONE);
        }

        boolean takeBack(Course now) {
            int last = (next + MOST_UNDONE - 1) % MOST_UNDONE;
            if (size == 0 || last < 0 || ring[last] == null) {
                return false;
            }
            now.copyFrom(ring[last]);
            next = last;
            size--;
            return true;
        }

        boolean putInSlot(int slot, Course now) {
            if (slot < 0 || slot >= slots.length) {
                return false;
            }
            if (slots[slot] == null) {
                slots[slot] = new Course();
            }
            slots[slot].copyFrom(now);
            heldBits |= 1 << slot;
            return true;
        }

        boolean takeFromSlot(int slot, Course now) {
            if (slot < 0 || slot >= slots.length || slots[slot] == null || (heldBits >>> slot & 1) == 0) {
                return false;
            }
            now.copyFrom(slots[slot]);
            size = 0;
            return true;
        }

        int slotsHeld() {
            return Integer.bitCount(heldBits);
        }
    }

    /**
     * Looks for the fewest pulls to a goal, a pull at a time for all poses that can be.
     * The poses stand in the order of the first rows that lead to them, so the first find is the first row.
     */
    private static final class Play {
        static final int TO_VERDICT = 0;
        static final int TO_NO_TANGLES = 1;
        static final int TO_PLACE = 2;
        /** The order of pulls is of no matter for a pose: four of seven strings lead to 210 at most. */
        private static final int MOST_POSES = 210;

        private final Script script;
        private final Bench bench;
        private int[] poses = new int[MOST_POSES];
        private int[] firsts = new int[MOST_POSES];
        private int[] nextPoses = new int[MOST_POSES];
        private int[] nextFirsts = new int[MOST_POSES];
        private int size = 0;
        private int nextSize = 0;
        private int goal = TO_VERDICT;
        private int wanted = 0;
        private int puppet = NONE;
        int firstString = NONE;

        Play(Script ofScript, Bench ofBench) {
            script = ofScript;
            bench = ofBench;
        }

        /** What to look for: a verdict, no tangles, or a puppet at an X. */
        void aimAt(int newGoal, int newWanted, int newPuppet) {
            goal = newGoal;
            wanted = newWanted;
            puppet = newPuppet;
        }

        private boolean isGoal(int pose, int verdict) {
            if (goal == TO_VERDICT) {
                return verdict == wanted;
            }
            if (verdict != 0) {
                return false;
            }
            return goal == TO_PLACE ? Pose.xOf(pose, puppet) == wanted : script.tanglesIn(pose) == 0;
        }

        /** The fewest pulls to the goal, NOT if none lead there; how they begin stands in 'firstString'. */
        int fewest(Course now) {
            firstString = NONE;
            if (now.verdict != 0) {
                return NOT;
            }
            if (isGoal(now.pose, 0)) {
                return 0;
            }
            poses[0] = now.pose;
            firsts[0] = NONE;
            size = 1;
            for (int made = 0; made < FAR; made++) {
                if (oneMore(now.pulls + made, (now.side + made) & 1)) {
                    return made + 1;
                }
            }
            return NOT;
        }

        /** Whether one more pull leads to the goal; if not, the poses behind it are those to go on from. */
        private boolean oneMore(int pulls, int side) {
            nextSize = 0;
            for (int i = 0; i < size && i < MOST_POSES; i++) {
                for (int string = 0; string < script.strings; string++) {
                    if (bench.allows(poses[i], pulls, side, string)) {
                        int first = firsts[i] == NONE ? string : firsts[i];
                        if (reaches(script.moved(poses[i], string), pulls + 1, first)) {
                            return true;
                        }
                    }
                }
            }
            swap();
            return false;
        }

        private boolean reaches(int pose, int pulls, int first) {
            if (isNext(pose)) {
                return false;
            }
            int verdict = bench.verdictOn(pose, pulls);
            if (isGoal(pose, verdict)) {
                firstString = first;
                return true;
            }
            if (verdict == 0 && nextSize < MOST_POSES) {
                nextPoses[nextSize] = pose;
                nextFirsts[nextSize] = first;
                nextSize++;
            }
            return false;
        }

        private boolean isNext(int pose) {
            for (int i = 0; i < nextSize && i < MOST_POSES; i++) {
                if (nextPoses[i] == pose) {
                    return true;
                }
            }
            return false;
        }

        private void swap() {
            int[] oldPoses = poses;
            int[] oldFirsts = firsts;
            poses = nextPoses;
            firsts = nextFirsts;
            nextPoses = oldPoses;
            nextFirsts = oldFirsts;
            size = nextSize;
        }
    }

    /** Whether a side brings its verdict about, whatever the other one does. */
    private static final class Duel {
        private static final int UNKNOWN = -1;
        /** Poses behind four pulls of seven strings, some of them passed: 330 at most. */
        private static final int MOST_POSES = 330;

        private final Script script;
        private final Bench bench;
        /** By the pulls made: the poses looked at, each twice itself, 1 more if it is won. */
        private final int[][] known = new int[FAR][MOST_POSES];
        private final int[] sizes = new int[FAR];
        private int forSide = 0;
        private int limit = 0;
        private int pullsAhead = 0;
        private int sideAhead = 0;

        Duel(Script ofScript, Bench ofBench) {
            script = ofScript;
            bench = ofBench;
        }

        boolean forces(Course now, int side, int n) {
            start(now, side, n);
            return now.verdict == 0 && tryAll(now.pose, 0);
        }

        /** The first string by which whose turn it is forces its verdict; NOT if there is none. */
        int strongString(Course now, int n) {
            start(now, now.side, n);
            for (int string = 0; string < script.strings && now.verdict == 0; string++) {
                if (bench.allows(now.pose, now.pulls, now.side, string)
                    && isWon(script.moved(now.pose, string), 1)) {
                    return string;
                }
            }
            return NOT;
        }

        private void start(Course now, int side, int n) {
            Arrays.fill(sizes, 0);
            forSide = side;
            limit = Math.min(n, FAR);
            pullsAhead = now.pulls;
            sideAhead = now.side;
        }

        /** Whether the side forces it, whoever's turn it is: its own pull need be good once, the other's always. */
        private boolean tryAll(int pose, int made) {
            int mover = (sideAhead + made) & 1;
            boolean own = mover == forSide;
            boolean pulled = false;
            for (int string = 0; string < script.strings; string++) {
                if (bench.allows(pose, pullsAhead + made, mover, string)) {
                    pulled = true;
                    if (isWon(script.moved(pose, string), made + 1) == own) {
                        return own;
                    }
                }
            }
            return pulled ? !own : isWon(pose, made + 1);
        }

        /** Whether the side has its verdict in a pose behind so many pulls, or forces it from there. */
        private boolean isWon(int pose, int made) {
            int verdict = bench.verdictOn(pose, pullsAhead + made);
            if (verdict != 0 || made >= limit) {
                return verdict == forSide + 1;
            }
            int before = recalled(pose, made);
            if (before != UNKNOWN) {
                return before == 1;
            }
            boolean won = tryAll(pose, made);
            note(pose, made, won);
            return won;
        }

        private int recalled(int pose, int made) {
            if (made < 0 || made >= FAR) {
                return UNKNOWN;
            }
            int[] row = known[made];
            for (int i = 0; i < sizes[made] && i < row.length; i++) {
                if (row[i] >> 1 == pose) {
                    return row[i] & 1;
                }
            }
            return UNKNOWN;
        }

        private void note(int pose, int made, boolean won) {
            if (made >= 0 && made < FAR && sizes[made] < MOST_POSES) {
                known[made][sizes[made]] = 2 * pose + (won ? 1 : 0);
                sizes[made]++;
            }
        }
    }

    /** How likely the children vote how. */
    private static final class Jury {
        private final Script script;
        private final Bench bench;
        /** In how many of 'all' alike cases just so many vote for the plaintiff. */
        private final int[] ways = new int[MOST_CHILDREN + 1];
        private int all = 1;

        Jury(Script ofScript, Bench ofBench) {
            script = ofScript;
            bench = ofBench;
        }

        void poll(Course now) {
            Arrays.fill(ways, 0);
            ways[0] = 1;
            all = 1;
            for (int child = 0; child < script.children; child++) {
                int votes = bench.votesOf(now.pose, now.pulls, child);
                for (int m = MOST_CHILDREN; m > 0; m--) {
                    ways[m] = ways[m] * (10 - votes) + ways[m - 1] * votes;
                }
                ways[0] *= 10 - votes;
                all *= 10;
            }
        }

        int waysOf(int m) {
            return m >= 0 && m < ways.length ? ways[m] : 0;
        }

        int waysOfMost() {
            int most = 0;
            for (int m = script.children / 2 + 1; m < ways.length; m++) {
                most += waysOf(m);
            }
            return most;
        }

        int likeliest() {
            int best = 0;
            for (int m = 1; m < ways.length; m++) {
                if (ways[m] > ways[best]) {
                    best = m;
                }
            }
            return best;
        }

        /** What is above or below in the fraction of some ways of all. */
        int share(int some, boolean below) {
            int divisor = greatestDivisor(all, some);
            if (divisor == 0) {
                return 0;
            }
            return (below ? all : some) / divisor;
        }

        private static int greatestDivisor(int a, int b) {
            int greater = a;
            int lesser = b;
            for (int i = 0; i < 64 && lesser != 0; i++) {
                int rest = greater % lesser;
                greater = lesser;
                lesser = rest;
            }
            return greater;
        }
    }

    /** What was told, and the rows of strings behind the cloth that fit it. */
    private static final class Cloth {
        private static final int UNSET = -1;

        private final Script script;
        private final int[] seen = new int[MOST_TOLD];
        private final int[] when = new int[MOST_TOLD];
        private final int[] where = new int[MOST_TOLD];
        private final int[] row = new int[FAR];
        /** By puppet and X: in how many rows it ends there. */
        private final int[][] ends = new int[MOST_PUPPETS][PLACES];
        private int known = 0;
        private int length = 0;
        /** By the pull: the string of all rows so far, NOT if they differ. */
        final int[] common = new int[FAR];
        int rows = 0;
        int told = 0;

        Cloth(Script ofScript) {
            script = ofScript;
        }

        /** Its number, NONE if there is no room. */
        int add(int puppet, int n, int x) {
            if (told < 0 || told >= MOST_TOLD) {
                return NONE;
            }
            seen[told] = puppet;
            when[told] = n;
            where[told] = x;
            told++;
            return told - 1;
        }

        boolean asks(int k, int n) {
            return k >= 0 && k <= told && n >= 0 && n <= FAR;
        }

        /** Goes through all rows of n strings that fit the first k. */
        void walk(int pose, int k, int n) {
            known = Math.min(k, MOST_TOLD);
            length = Math.min(n, FAR);
            rows = 0;
            Arrays.fill(common, UNSET);
            for (int puppet = 0; puppet < MOST_PUPPETS; puppet++) {
                Arrays.fill(ends[puppet], 0);
            }
            goOn(pose, 0);
        }

        private void goOn(int pose, int made) {
            if (made < 0 || made >= length || made >= FAR) {
                countRow(pose);
                return;
            }
            for (int string = 0; string < script.strings; string++) {
                int next = script.moved(pose, string);
                if (next != NONE && fits(next, made + 1)) {
                    row[made] = string;
                    goOn(next, made + 1);
                }
            }
        }

        private boolean fits(int pose, int made) {
            for (int i = 0; i < known && i < MOST_TOLD; i++) {
                if (when[i] == made && Pose.xOf(pose, seen[i]) != where[i]) {
                    return false;
                }
            }
            return true;
        }

        private void countRow(int pose) {
            rows++;
            for (int i = 0; i < length && i < FAR; i++) {
                if (common[i] == UNSET) {
                    common[i] = row[i];
                } else if (common[i] != row[i]) {
                    common[i] = NOT;
                }
            }
            for (int puppet = 0; puppet < script.puppets && puppet < MOST_PUPPETS; puppet++) {
                int x = Pose.xOf(pose, puppet);
                if (x < PLACES) {
                    ends[puppet][x]++;
                }
            }
        }

        /** The puppet whose X leaves the fewest rows at worst; NOT if there are no puppets. */
        int tellingPuppet() {
            int best = NOT;
            int fewest = MANY;
            for (int puppet = 0; puppet < script.puppets && puppet < MOST_PUPPETS; puppet++) {
                int worst = 0;
                for (int x = 0; x < PLACES; x++) {
                    worst = Math.max(worst, ends[puppet][x]);
                }
                if (worst < fewest) {
                    fewest = worst;
                    best = puppet;
                }
            }
            return best;
        }
    }
}
