import java.util.Arrays;

/** Polynomials with whole coefficients of degrees up to six: products, quotients, factors and Galois groups. */
public final class GaloisDesk {
    public static final int NONE = -1;
    public static final int FULL = -2;
    public static final int ZERO = -3;

    private static final int SLOTS = 8;
    private static final int TOP = 6;
    private static final int LIMIT = 300;
    private static final int MULTIPLIER_LIMIT = 10;
    private static final int LAST_PRIME = 997;
    private static final int GALOIS_TOP = 4;

    /** The product of two polynomials of the highest degree must fit before it is looked at. */
    private static final int ROOM = 2 * TOP + 1;

    /**
     * Far above every coefficient of a divisor of a slot's polynomial (at most 20 * 300 * root of 7, by Mignotte) and
     * of a quotient of its derivative; yet products below it stay far inside a long.
     */
    private static final long SAFE = 1000000L;

    /** Euclid's steps on numbers of 63 bits stay below this. */
    private static final int EUCLID_STEPS = 100;

    /**
     * Each is above 2 * 300 * 20 * 300 * root of 7, so that a factor times the lead can be read off its residues.
     * At most four of them can divide the discriminant of a square-free polynomial, or the resultant of two, that
     * come here (both are below 2 to the 122), so one always serves.
     */
    private static final long[] BIG_PRIMES = {33554467L, 33554473L, 33554501L, 33554503L, 33554509L, 33554519L};

    private final Row[] slots = freshRows(SLOTS);
    private final Row result = new Row();
    private final Row left = new Row();
    private final Row right = new Row();
    private final PartList told = new PartList();
    private final int[] patternDegrees = new int[TOP];
    private int patternCount = 0;
    private final Factoring factoring = new Factoring();
    private final Splitter splitter = factoring.splitter;

    /** The fields make all rows, so that no call has to make an object. */
    public GaloisDesk() {
    }

    public int set(int slot, int k, int c) throws IllegalArgumentException {
        checkSlot(slot);
        checkPlace(k);
        checkWithin(c, LIMIT);
        slots[slot].c[k] = c;
        slots[slot].settle();
        return slots[slot].top;
    }

    public int get(int slot, int k) throws IllegalArgumentException {
        checkSlot(slot);
        checkPlace(k);
        return (int) slots[slot].c[k];
    }

    public int add(int to, int a, int b, int p, int q) throws IllegalArgumentException {
        checkThreeSlots(to, a, b);
        checkWithin(p, MULTIPLIER_LIMIT);
        checkWithin(q, MULTIPLIER_LIMIT);
        result.becomeSum(slots[a], p, slots[b], q);
        return keepResult(to);
    }

    public int multiply(int to, int a, int b) throws IllegalArgumentException {
        checkThreeSlots(to, a, b);
        result.becomeProduct(slots[a], slots[b]);
        return keepResult(to);
    }

    public int derive(int to, int a) throws IllegalArgumentException {
        checkSlot(to);
        checkSlot(a);
        result.becomeSlope(slots[a]);
        return keepResult(to);
    }

    public int divide(int to, int a, int b) throws IllegalArgumentException {
        checkThreeSlots(to, a, b);
        if (slots[b].top < 0) {
            return ZERO;
        }
        if (!result.becomeQuotient(slots[a], slots[b], left)) {
            return NONE;
        }
        return keepResult(to);
    }

    public int common(int to, int a, int b) throws IllegalArgumentException {
        checkThreeSlots(to, a, b);
        left.become(slots[a]);
        left.makePrimitive();
        right.become(slots[b]);
        right.makePrimitive();
        if (left.top < 0) {
            result.become(right);
        } else if (right.top < 0) {
            result.become(left);
        } else {
            factoring.findCommon(result, left, right);
        }
        return keepResult(to);
    }

    public int parts(int slot) throws IllegalArgumentException {
        checkSlot(slot);
        if (slots[slot].top < 0) {
            return ZERO;
        }
        factoring.takeApart(slots[slot]);
        told.become(factoring.found);
        return told.count;
    }

    public long part(int i, int k) {
        return told.holds(i) ? told.rows[i].at(k) : 0;
    }

    public int times(int i) {
        return told.holds(i) ? told.often[i] : 0;
    }

    public int content() {
        return told.number;
    }

    public int pattern(int slot, int prime) throws IllegalArgumentException {
        checkSlot(slot);
        checkPrime(prime);
        patternCount = 0;
        if (slots[slot].top < 1) {
            return ZERO;
        }
        if (!splitter.load(slots[slot], prime)) {
            return NONE;
        }
        splitter.groupByDegrees();
        tellPattern();
        return patternCount;
    }

    public int degree(int i) {
        return i < 0 || i >= patternCount ? 0 : patternDegrees[i];
    }

    public int galois(int slot) throws IllegalArgumentException {
        checkSlot(slot);
        int top = slots[slot].top;
        if (top < 1 || top > GALOIS_TOP) {
            return 0;
        }
        factoring.takeApart(slots[slot]);
        if (!factoring.found.isSingle()) {
            return 0;
        }
        return Groups.of(factoring.found.rows[0]);
    }

    private void tellPattern() {
        for (int d = 1; d <= TOP; d++) {
            for (int sum = d; sum <= splitter.equal[d].top && patternCount < TOP; sum += d) {
                patternDegrees[patternCount] = d;
                patternCount++;
            }
        }
    }

    private int keepResult(int to) {
        if (result.top > TOP || !result.isWithin(LIMIT)) {
            return FULL;
        }
        slots[to].become(result);
        return result.top;
    }

    private static void checkThreeSlots(int to, int a, int b) throws IllegalArgumentException {
        checkSlot(to);
        checkSlot(a);
        checkSlot(b);
    }

    private static void checkSlot(int slot) throws IllegalArgumentException {
        if (slot < 0 || slot >= SLOTS) {
            throw new IllegalArgumentException("no such slot");
        }
    }

    private static void checkPlace(int k) throws IllegalArgumentException {
        if (k < 0 || k > TOP) {
            throw new IllegalArgumentException("no such coefficient");
        }
    }

    private static void checkWithin(int number, int limit) throws IllegalArgumentException {
        if (number < -limit || number > limit) {
            throw new IllegalArgumentException("number out of bounds");
        }
    }

    private static void checkPrime(int prime) throws IllegalArgumentException {
        if (prime < 2 || prime > LAST_PRIME) {
            throw new IllegalArgumentException("prime out of bounds");
        }
        for (int d = 2; d * d <= prime; d++) {
            if (prime % d == 0) {
                throw new IllegalArgumentException("not a prime");
            }
        }
    }

    private static Row[] freshRows(int count) {
        Row[] rows = new Row[count];
        for (int i = 0; i < count; i++) {
            rows[i] = new Row();
        }
        return rows;
    }

    private static long greatestDivisor(long a, long b) {
        long x = Math.abs(a);
        long y = Math.abs(b);
        for (int step = 0; step < EUCLID_STEPS && y != 0; step++) {
            long rest = x % y;
            x = y;
            y = rest;
        }
        return x;
    }

    /** Coefficients, whole ones or residues, of x to the 0 first, and the degree. */
    private static final class Row {
        final long[] c = new long[ROOM];
        int top = NONE;

        void clear() {
            for (int k = 0; k < ROOM; k++) {
                c[k] = 0;
            }
            top = NONE;
        }

        void become(Row other) {
            System.arraycopy(other.c, 0, c, 0, ROOM);
            top = other.top;
        }

        void becomeNumber(long number) {
            clear();
            c[0] = number;
            top = number == 0 ? NONE : 0;
        }

        /** x plus a number. */
        void becomeLine(long number) {
            clear();
            c[0] = number;
            c[1] = 1;
            top = 1;
        }

        void settle() {
            top = NONE;
            for (int k = 0; k < ROOM; k++) {
                if (c[k] != 0) {
                    top = k;
                }
            }
        }

        long at(int k) {
            return k < 0 || k >= ROOM ? 0 : c[k];
        }

        long lead() {
            return at(top);
        }

        boolean isWithin(long limit) {
            for (int k = 0; k <= top; k++) {
                if (c[k] > limit || c[k] < -limit) {
                    return false;
                }
            }
            return true;
        }

        void becomeSum(Row a, long p, Row b, long q) {
            for (int k = 0; k < ROOM; k++) {
                c[k] = p * a.c[k] + q * b.c[k];
            }
            settle();
        }

        /** This row is neither of the two; their degrees together stay inside the room. */
        void becomeProduct(Row a, Row b) {
            clear();
            for (int i = 0; i <= a.top; i++) {
                for (int j = 0; j <= b.top && i + j < ROOM; j++) {
                    c[i + j] += a.c[i] * b.c[j];
                }
            }
            settle();
        }

        /** This row is not the other one. */
        void becomeSlope(Row a) {
            clear();
            for (int k = 1; k <= a.top; k++) {
                c[k - 1] = k * a.c[k];
            }
            settle();
        }

        /** False if b does not divide a with whole coefficients below SAFE; rest is overwritten in any case. */
        boolean becomeQuotient(Row a, Row b, Row rest) {
            clear();
            rest.become(a);
            long lead = b.lead();
            if (lead == 0) {
                return false;
            }
            for (int k = a.top - b.top; k >= 0; k--) {
                long high = rest.c[k + b.top];
                long q = high / lead;
                if (high % lead != 0 || Math.abs(q) > SAFE) {
                    return false;
                }
                c[k] = q;
                for (int j = 0; j <= b.top; j++) {
                    rest.c[k + j] -= q * b.c[j];
                }
            }
            settle();
            rest.settle();
            return rest.top < 0;
        }

        /** The greatest number that divides all coefficients, with the sign of the lead; 0 for 0. */
        long signedMeasure() {
            long measure = 0;
            for (int k = 0; k <= top; k++) {
                measure = greatestDivisor(measure, c[k]);
            }
            return lead() < 0 ? -measure : measure;
        }

        void makePrimitive() {
            long measure = signedMeasure();
            if (measure == 0) {
                return;
            }
            for (int k = 0; k <= top; k++) {
                c[k] /= measure;
            }
        }

        /** By degrees, then by the highest coefficients: below 0 if this row comes first. */
        int compareWith(Row other) {
            if (top != other.top) {
                return Integer.compare(top, other.top);
            }
            for (int k = top; k >= 0; k--) {
                if (c[k] != other.c[k]) {
                    return Long.compare(c[k], other.c[k]);
                }
            }
            return 0;
        }
    }

    /** The irreducible factors of a polynomial, how often each is there, and the number before them. */
    private static final class PartList {
        final Row[] rows = freshRows(TOP);
        final int[] often = new int[TOP];
        int count = 0;
        int number = 0;

        void begin(int firstNumber) {
            count = 0;
            number = firstNumber;
        }

        void append(Row row) {
            if (count < TOP) {
                rows[count].become(row);
                often[count] = 0;
                count++;
            }
        }

        boolean holds(int i) {
            return i >= 0 && i < count;
        }

        boolean isSingle() {
            return count == 1 && often[0] == 1;
        }

        void become(PartList other) {
            count = other.count;
            number = other.number;
            for (int i = 0; i < count; i++) {
                rows[i].become(other.rows[i]);
                often[i] = other.often[i];
            }
        }

        void sort() {
            for (int i = 1; i < count; i++) {
                for (int j = i; j > 0 && rows[j].compareWith(rows[j - 1]) < 0; j--) {
                    swapWithPrevious(j);
                }
            }
        }

        private void swapWithPrevious(int j) {
            Row row = rows[j];
            rows[j] = rows[j - 1];
            rows[j - 1] = row;
            int n = often[j];
            often[j] = often[j - 1];
            often[j - 1] = n;
        }
    }

    /** Polynomials with residues modulo a prime as coefficients; the prime is below 2 to the 26. */
    private static final class Residues {
        long modulus = 2;
        private final long[] wide = new long[ROOM];
        private final Row first = new Row();
        private final Row second = new Row();

        void useModulus(long prime) {
            modulus = prime < 2 ? 2 : prime;
        }

        void reduce(Row out, Row a) {
            for (int k = 0; k < ROOM; k++) {
                out.c[k] = Math.floorMod(a.c[k], modulus);
            }
            out.settle();
        }

        /** The whole numbers nearest to 0 that have the residues of a. */
        void lift(Row out, Row a) {
            reduce(out, a);
            for (int k = 0; k <= out.top; k++) {
                if (out.c[k] > modulus / 2) {
                    out.c[k] -= modulus;
                }
            }
        }

        void makeMonic(Row a) {
            if (a.lead() == 1) {
                return;
            }
            long factor = inverse(a.lead());
            for (int k = 0; k <= a.top; k++) {
                a.c[k] = a.c[k] * factor % modulus;
            }
        }

        private long inverse(long a) {
            long high = modulus;
            long low = a;
            long before = 0;
            long now = 1;
            for (int step = 0; step < EUCLID_STEPS && low != 0; step++) {
                long q = high / low;
                long rest = high - q * low;
                high = low;
                low = rest;
                long next = before - q * now;
                before = now;
                now = next;
            }
            return before < 0 ? before + modulus : before;
        }

        void addAt(Row a, int k, long number) {
            a.c[k] = Math.floorMod(a.c[k] + number, modulus);
            a.settle();
        }

        /** The rest of a by m, whose lead is 1. */
        void takeRest(Row a, Row m) {
            for (int k = a.top - m.top; k >= 0; k--) {
                subtractShifted(a, m, k);
            }
            a.settle();
        }

        /** The quotient of a by m, whose lead is 1. Out is none of the two. */
        void findQuotient(Row out, Row a, Row m) {
            out.clear();
            first.become(a);
            for (int k = a.top - m.top; k >= 0; k--) {
                out.c[k] = first.c[k + m.top];
                subtractShifted(first, m, k);
            }
            out.settle();
        }

        private void subtractShifted(Row a, Row m, int shift) {
            long minus = modulus - a.c[shift + m.top];
            for (int j = 0; j <= m.top; j++) {
                a.c[shift + j] = (a.c[shift + j] + minus * m.c[j]) % modulus;
            }
        }

        /** With the lead 1; 0 if both are 0. */
        void findCommon(Row out, Row a, Row b) {
            Row high = first;
            Row low = second;
            high.become(a);
            low.become(b);
            for (int step = 0; step <= ROOM && low.top >= 0; step++) {
                makeMonic(low);
                takeRest(high, low);
                Row swapped = high;
                high = low;
                low = swapped;
            }
            makeMonic(high);
            out.become(high);
        }

        /**
         * The rest of a times b by m, whose lead is 1 and whose degree is above 0; all of degrees up to TOP. Out may be
         * a or b. Sums of products of residues fit in a long, so they are reduced once only.
         */
        void multiplyModulo(Row out, Row a, Row b, Row m) {
            Arrays.fill(wide, 0L);
            for (int i = 0; i <= a.top; i++) {
                for (int j = 0; j <= b.top && i + j < ROOM; j++) {
                    wide[i + j] += a.c[i] * b.c[j];
                }
            }
            for (int k = Math.min(a.top + b.top, ROOM - 1); k >= m.top && k >= 0; k--) {
                long q = wide[k] % modulus;
                wide[k] = 0;
                for (int j = 0; j < m.top && q != 0; j++) {
                    wide[k - m.top + j] -= q * m.c[j];
                }
            }
            for (int k = 0; k < ROOM; k++) {
                out.c[k] = Math.floorMod(wide[k], modulus);
            }
            out.settle();
        }

        /** The rest of a power of base by m. Out is neither base nor m. */
        void raise(Row out, Row base, long exponent, Row m) {
            out.becomeNumber(1);
            for (int bit = 30; bit >= 0; bit--) {
                multiplyModulo(out, out, out, m);
                if ((exponent >> bit & 1) == 1) {
                    multiplyModulo(out, out, base, m);
                }
            }
        }

        /** What outer makes of inner, its rest by m. Out is neither of the three. */
        void compose(Row out, Row outer, Row inner, Row m) {
            out.clear();
            for (int k = outer.top; k >= 0; k--) {
                multiplyModulo(out, out, inner, m);
                addAt(out, 0, outer.c[k]);
            }
        }
    }

    /** Takes a polynomial apart modulo a prime. */
    private static final class Splitter {
        /**
         * About half of all shifts part two factors, so a few dozen would do. That one of so many does is certain: by
         * Weil's bound, shifts that do and that do not differ by less than 6 * root of p * (1 + ln p) in number, which
         * is below 640000 for the big primes.
         */
        private static final int TRIES = 1000000;

        final Residues residues = new Residues();
        private final Row image = new Row();
        private final Row rest = new Row();
        private final Row line = new Row();
        private final Row helper = new Row();
        private final Row found = new Row();
        /** At d, the rest by the image of x to the p to the d, as far as d was needed. */
        private final Row[] conjugates = freshRows(TOP / 2 + 1);
        /** At d, the product of the factors of degree d; 0 if there is none. */
        final Row[] equal = freshRows(TOP + 1);
        final Row[] pieces = freshRows(TOP);
        int pieceCount = 0;

        /** False if the degree sinks modulo the prime, or a factor is there twice. */
        boolean load(Row whole, long prime) {
            residues.useModulus(prime);
            residues.reduce(image, whole);
            if (image.top != whole.top || image.top < 1) {
                return false;
            }
            residues.makeMonic(image);
            helper.becomeSlope(image);
            residues.reduce(rest, helper);
            residues.findCommon(found, image, rest);
            return found.top == 0;
        }

        /** x to the p to the d, minus x, has just the factors of the degrees that divide d, each once. */
        void groupByDegrees() {
            pieceCount = 0;
            for (Row row : equal) {
                row.clear();
            }
            rest.become(image);
            for (int d = 1; d <= TOP / 2 && 2 * d <= rest.top; d++) {
                findConjugate(d);
                helper.become(conjugates[d]);
                residues.addAt(helper, 1, -1);
                residues.findCommon(found, helper, rest);
                if (found.top > 0) {
                    equal[d].become(found);
                    residues.findQuotient(helper, rest, found);
                    rest.become(helper);
                }
            }
            if (rest.top > 0) {
                equal[rest.top].become(rest);
            }
        }

        /** Raising to the p puts x to the p in the place of x. */
        private void findConjugate(int d) {
            if (d > 1) {
                residues.compose(conjugates[d], conjugates[d - 1], conjugates[1], image);
            } else {
                line.becomeLine(0);
                residues.raise(conjugates[d], line, residues.modulus, image);
            }
        }

        /** Splits what groupByDegrees found at d; the prime is odd. */
        void separate(int d) {
            int from = pieceCount;
            if (equal[d].top < d || from >= TOP) {
                return;
            }
            pieces[from].become(equal[d]);
            pieceCount++;
            int due = from + equal[d].top / d;
            for (int shift = 0; shift < TRIES && pieceCount < due; shift++) {
                int standing = pieceCount;
                for (int i = from; i < standing; i++) {
                    if (pieces[i].top > d) {
                        trySplit(i, d, shift);
                    }
                }
            }
        }

        /** The norm of x plus shift is a square for about half of the factors: those come apart from the others. */
        private void trySplit(int i, int d, int shift) {
            Row piece = pieces[i];
            findNorm(piece, d, shift);
            residues.raise(helper, line, (residues.modulus - 1) / 2, piece);
            residues.addAt(helper, 0, -1);
            residues.findCommon(found, helper, piece);
            if (found.top > 0 && found.top < piece.top && pieceCount < TOP) {
                residues.findQuotient(pieces[pieceCount], piece, found);
                pieceCount++;
                piece.become(found);
            }
        }

        /** Leaves in line the product of the d conjugates of x plus shift. */
        private void findNorm(Row piece, int d, int shift) {
            line.becomeLine(shift);
            for (int k = 1; k < d && k <= TOP / 2; k++) {
                helper.become(conjugates[k]);
                residues.addAt(helper, 0, shift);
                residues.multiplyModulo(line, line, helper, piece);
            }
        }
    }

    /** Takes a polynomial apart with whole coefficients. */
    private static final class Factoring {
        final Splitter splitter = new Splitter();
        private final Residues residues = splitter.residues;
        private final Row body = new Row();
        private final Row rest = new Row();
        private final Row slope = new Row();
        private final Row shared = new Row();
        private final Row candidate = new Row();
        private final Row quotient = new Row();
        private final Row scratch = new Row();
        final PartList found = new PartList();

        /** The whole is a slot's polynomial, and not 0. */
        void takeApart(Row whole) {
            found.begin((int) whole.signedMeasure());
            if (whole.top < 1) {
                return;
            }
            body.become(whole);
            body.makePrimitive();
            slope.becomeSlope(body);
            findCommon(shared, body, slope);
            rest.becomeQuotient(body, shared, scratch);
            chooseModulus();
            splitter.groupByDegrees();
            for (int d = 1; d <= TOP; d++) {
                splitter.separate(d);
            }
            recombine();
            countEach();
            found.sort();
        }

        /**
         * Of two that are not 0, a primitive one first. Modulo a prime a common divisor's degree is never too low, so
         * what divides both with that degree is the right one.
         */
        void findCommon(Row out, Row a, Row b) {
            long lead = greatestDivisor(a.lead(), b.lead());
            for (long prime : BIG_PRIMES) {
                residues.useModulus(prime);
                residues.reduce(candidate, a);
                residues.reduce(quotient, b);
                residues.findCommon(scratch, candidate, quotient);
                candidate.becomeSum(scratch, lead, scratch, 0);
                residues.lift(out, candidate);
                out.makePrimitive();
                if (divides(out, a) && divides(out, b)) {
                    return;
                }
            }
            out.becomeNumber(1);
        }

        private boolean divides(Row divisor, Row a) {
            return divisor.isWithin(SAFE) && quotient.becomeQuotient(a, divisor, scratch);
        }

        private void chooseModulus() {
            for (long prime : BIG_PRIMES) {
                if (splitter.load(rest, prime)) {
                    return;
                }
            }
        }

        /** Fewer ones of the same pieces have a lower mask and come first, so what is found is no product of others. */
        private void recombine() {
            int used = 0;
            for (int mask = 1; mask < 1 << splitter.pieceCount; mask++) {
                if ((mask & used) == 0 && takeOut(mask)) {
                    used |= mask;
                }
            }
        }

        private boolean takeOut(int mask) {
            candidate.becomeNumber(rest.lead());
            for (int i = 0; i < splitter.pieceCount; i++) {
                if ((mask >> i & 1) == 1) {
                    scratch.becomeProduct(candidate, splitter.pieces[i]);
                    residues.reduce(candidate, scratch);
                }
            }
            residues.lift(shared, candidate);
            shared.makePrimitive();
            if (!divides(shared, rest)) {
                return false;
            }
            found.append(shared);
            rest.become(quotient);
            return true;
        }

        private void countEach() {
            for (int i = 0; i < found.count; i++) {
                for (int n = 0; n < TOP && quotient.becomeQuotient(body, found.rows[i], scratch); n++) {
                    body.become(quotient);
                    found.often[i]++;
                }
            }
        }
    }

    /** Galois groups of irreducible cubics and quartics, by their resolvents. */
    private static final class Groups {
        private static final int THREE_TURNS = 3;
        private static final int THREE_ALL = 4;
        private static final int FOUR_KLEIN = 5;
        private static final int FOUR_CYCLE = 6;
        private static final int FOUR_SQUARE = 7;
        private static final int FOUR_EVEN = 8;
        private static final int FOUR_ALL = 9;

        /** Above 2 * 300 * root of 5, which no root of the resolvent of a quartic passes. */
        private static final long ROOT_LIMIT = 1342;

        /** One root or two have a single group each, whose number is the degree. */
        static int of(Row f) {
            if (f.top == 4) {
                return ofQuartic(f);
            }
            return f.top == 3 ? ofCubic(f) : f.top;
        }

        private static int ofCubic(Row f) {
            return isSquare(discriminantOf(f.at(3), f.at(2), f.at(1), f.at(0))) ? THREE_TURNS : THREE_ALL;
        }

        /** With roots u, v, w, z the resolvent's are lead * (uv + wz) and its like; the discriminants are the same. */
        private static int ofQuartic(Row f) {
            long a = f.at(4);
            long square = -f.at(2);
            long linear = f.at(3) * f.at(1) - 4 * a * f.at(0);
            long constant = (4 * a * f.at(2) - f.at(3) * f.at(3)) * f.at(0) - a * f.at(1) * f.at(1);
            long discriminant = discriminantOf(1, square, linear, constant);
            int count = 0;
            long root = 0;
            for (long y = -ROOT_LIMIT; y <= ROOT_LIMIT; y++) {
                if (((y + square) * y + linear) * y + constant == 0) {
                    count++;
                    root = y;
                }
            }
            if (count == 0) {
                return isSquare(discriminant) ? FOUR_EVEN : FOUR_ALL;
            }
            if (count > 1) {
                return FOUR_KLEIN;
            }
            return isCycle(f, root, discriminant) ? FOUR_CYCLE : FOUR_SQUARE;
        }

        /** Kappe and Warren: both quadratics of the resolvent's one root split where the discriminant has its root. */
        private static boolean isCycle(Row f, long root, long discriminant) {
            long sums = f.at(3) * f.at(3) - 4 * f.at(4) * (f.at(2) - root);
            long products = root * root - 4 * f.at(4) * f.at(0);
            return isSquareProduct(sums, discriminant) && isSquareProduct(products, discriminant);
        }

        private static long discriminantOf(long a, long b, long c, long d) {
            return b * b * c * c - 4 * a * c * c * c - 4 * b * b * b * d - 27 * a * a * d * d + 18 * a * b * c * d;
        }

        /** The product itself would not fit: without what they share, both must be squares, up to one sign. */
        private static boolean isSquareProduct(long a, long b) {
            long shared = greatestDivisor(a, b);
            if (a == 0 || b == 0 || shared == 0) {
                return true;
            }
            return (a < 0) == (b < 0) && isSquare(Math.abs(a / shared)) && isSquare(Math.abs(b / shared));
        }

        private static boolean isSquare(long number) {
            long root = 0;
            for (int bit = 30; bit >= 0; bit--) {
                long next = root | 1L << bit;
                if (next * next <= number) {
                    root = next;
                }
            }
            return root * root == number;
        }
    }
}
