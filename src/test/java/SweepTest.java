import java.util.ArrayList;
import java.util.List;

/**
 * Many polynomials, made by a fixed rule, against plain searches that share no way of working with the class: factors
 * by trying all, patterns by trying all divisors modulo the prime, groups by the patterns of all primes up to 997.
 * Each polynomial has an object of its own, since one is used for 512 calls only.
 */
public final class SweepTest {
    private static long seed = 12345;

    public static void main(String[] args) {
        partsMultiplyBack();
        partsAgainstAllDivisors();
        patternsAgainstAllDivisors();
        groupsAgainstPatterns();
        commonAgainstParts();
        productsDivideBack();
        Check.end();
    }

    /** From -bound to bound. */
    private static int next(int bound) {
        seed = (seed * 1103515245L + 12345L) & 0x7fffffffL;
        return (int) ((seed >> 8) % (2 * bound + 1)) - bound;
    }

    private static int[] nextRow(int top, int bound) {
        int[] row = new int[top + 1];
        for (int k = 0; k <= top; k++) {
            row[k] = next(bound);
        }
        return row;
    }

    private static long[] product(long[] a, long[] b) {
        long[] c = new long[a.length + b.length - 1];
        for (int i = 0; i < a.length; i++) {
            for (int j = 0; j < b.length; j++) {
                c[i + j] += a[i] * b[j];
            }
        }
        return c;
    }

    private static int topOf(long[] row) {
        int top = row.length - 1;
        while (top >= 0 && row[top] == 0) {
            top--;
        }
        return top;
    }

    private static int topOf(int[] row) {
        int top = row.length - 1;
        while (top >= 0 && row[top] == 0) {
            top--;
        }
        return top;
    }

    private static long[] partOf(GaloisDesk desk, int i) {
        long[] row = new long[7];
        for (int k = 0; k <= 6; k++) {
            row[k] = desk.part(i, k);
        }
        return java.util.Arrays.copyOf(row, topOf(row) + 1);
    }

    private static boolean isBefore(long[] a, long[] b) {
        if (a.length != b.length) {
            return a.length < b.length;
        }
        for (int k = a.length - 1; k >= 0; k--) {
            if (a[k] != b[k]) {
                return a[k] < b[k];
            }
        }
        return false;
    }

    private static void partsMultiplyBack() {
        for (int n = 0; n < 1500; n++) {
            GaloisDesk desk = new GaloisDesk();
            int[] row = n % 3 == 0 ? nextRow(6, 300) : nextRow(n % 7, n % 3 * 2);
            String what = "parts of " + java.util.Arrays.toString(row);
            Check.load(desk, 0, row);
            int count = desk.parts(0);
            if (topOf(row) < 0) {
                Check.same(what, count, GaloisDesk.ZERO);
                continue;
            }
            long[] whole = {desk.content()};
            for (int i = 0; i < count; i++) {
                Check.holds(what + ": order", i == 0 || isBefore(partOf(desk, i - 1), partOf(desk, i)));
                for (int t = 0; t < desk.times(i); t++) {
                    whole = product(whole, partOf(desk, i));
                }
            }
            for (int k = 0; k < 7; k++) {
                Check.same(what + ": product at " + k, k < whole.length ? whole[k] : 0, k < row.length ? row[k] : 0);
            }
        }
    }

    private static void partsAgainstAllDivisors() {
        for (int n = 0; n < 250; n++) {
            GaloisDesk desk = new GaloisDesk();
            int[] row = nextRow(1 + n % 6, 2);
            Check.load(desk, 0, row);
            int count = desk.parts(0);
            for (int i = 0; i < count; i++) {
                long[] part = partOf(desk, i);
                Check.holds("part " + i + " of " + java.util.Arrays.toString(row) + " is irreducible",
                        part.length > 1 && part[part.length - 1] > 0 && !hasDivisor(part));
            }
        }
    }

    /** Looks at all divisors of degrees from 1 to half; the coefficients between keep to Mignotte's bound. */
    private static boolean hasDivisor(long[] whole) {
        int top = whole.length - 1;
        long length = 0;
        for (long c : whole) {
            length += Math.abs(c);
        }
        for (int d = 1; 2 * d <= top; d++) {
            long[] divisor = new long[d + 1];
            if (tryPlace(whole, divisor, d, length)) {
                return true;
            }
        }
        return false;
    }

    private static boolean tryPlace(long[] whole, long[] divisor, int k, long length) {
        int top = divisor.length - 1;
        if (k < 0) {
            return dividesWhole(whole, divisor);
        }
        long bound = k == top || k == 0 ? length : top * length;
        for (long c = k == top ? 1 : -bound; c <= bound; c++) {
            boolean fits = k == top ? whole[whole.length - 1] % c == 0
                    : k > 0 || (c == 0 ? whole[0] == 0 : whole[0] % c == 0);
            divisor[k] = c;
            if (fits && tryPlace(whole, divisor, k - 1, length)) {
                return true;
            }
        }
        return false;
    }

    private static boolean dividesWhole(long[] whole, long[] divisor) {
        long[] rest = whole.clone();
        int top = divisor.length - 1;
        for (int k = rest.length - 1 - top; k >= 0; k--) {
            if (rest[k + top] % divisor[top] != 0) {
                return false;
            }
            long q = rest[k + top] / divisor[top];
            for (int j = 0; j <= top; j++) {
                rest[k + j] -= q * divisor[j];
            }
        }
        return topOf(rest) < 0;
    }

    private static void patternsAgainstAllDivisors() {
        int[] primes = {2, 3, 5, 7};
        for (int n = 0; n < 1200; n++) {
            GaloisDesk desk = new GaloisDesk();
            int[] row = nextRow(1 + n % 6, 300);
            int prime = primes[n / 6 % 4];
            if (topOf(row) < 1) {
                continue;
            }
            Check.load(desk, 0, row);
            String what = "pattern of " + java.util.Arrays.toString(row) + " modulo " + prime;
            List<Integer> due = patternByTrying(row, prime);
            Check.same(what, desk.pattern(0, prime), due == null ? GaloisDesk.NONE : due.size());
            for (int i = 0; i < 7; i++) {
                int degree = due == null || i >= due.size() ? 0 : due.get(i);
                Check.same(what + ": degree(" + i + ")", desk.degree(i), degree);
            }
        }
    }

    private static List<Integer> patternByTrying(int[] row, int prime) {
        int[] rest = new int[topOf(row) + 1];
        for (int k = 0; k < rest.length; k++) {
            rest[k] = Math.floorMod(row[k], prime);
        }
        if (rest[rest.length - 1] == 0) {
            return null;
        }
        List<Integer> degrees = new ArrayList<>();
        for (int d = 1; 2 * d <= topOf(rest); d++) {
            int all = (int) Math.round(Math.pow(prime, d));
            for (int code = 0; code < all; code++) {
                int[] divisor = monic(code, d, prime);
                int[] quotient = quotientModulo(rest, divisor, prime);
                if (quotient != null) {
                    degrees.add(d);
                    rest = quotient;
                    if (quotientModulo(rest, divisor, prime) != null) {
                        return null;
                    }
                }
            }
        }
        if (topOf(rest) > 0) {
            degrees.add(topOf(rest));
        }
        return degrees;
    }

    private static int[] monic(int code, int d, int prime) {
        int[] row = new int[d + 1];
        int left = code;
        for (int k = 0; k < d; k++) {
            row[k] = left % prime;
            left /= prime;
        }
        row[d] = 1;
        return row;
    }

    private static int[] quotientModulo(int[] whole, int[] divisor, int prime) {
        int[] rest = whole.clone();
        int top = divisor.length - 1;
        if (topOf(rest) < top) {
            return null;
        }
        int[] quotient = new int[topOf(rest) - top + 1];
        for (int k = quotient.length - 1; k >= 0; k--) {
            quotient[k] = rest[k + top];
            for (int j = 0; j <= top; j++) {
                rest[k + j] = Math.floorMod(rest[k + j] - quotient[k] * divisor[j], prime);
            }
        }
        return topOf(rest) < 0 ? quotient : null;
    }

    private static void groupsAgainstPatterns() {
        for (int n = 0; n < 300; n++) {
            GaloisDesk desk = new GaloisDesk();
            int[] row = nextQuartic(n);
            Check.load(desk, 0, row);
            int count = desk.parts(0);
            boolean irreducible = count == 1 && desk.times(0) == 1;
            int due = topOf(row) < 1 || !irreducible ? 0 : groupByPatterns(desk, topOf(row));
            Check.same("galois of " + java.util.Arrays.toString(row), desk.galois(0), due);
        }
    }

    private static int[] nextQuartic(int n) {
        int[] row = nextRow(n % 4 == 0 ? 3 : 4, n % 5 == 0 ? 300 : 6);
        if (n % 4 == 1) {
            row[1] = 0;
            row[3] = 0;
        } else if (n % 4 == 2) {
            row[3] = row[1];
            row[4] = row[0];
        }
        return row;
    }

    /** Every element's way of moving the roots is the pattern of some prime, and nearly always of one up to 997. */
    private static int groupByPatterns(GaloisDesk desk, int top) {
        boolean four = false;
        boolean three = false;
        boolean swap = false;
        for (int prime = 2; prime <= 997; prime++) {
            if (java.math.BigInteger.valueOf(prime).isProbablePrime(50)) {
                int count = desk.pattern(0, prime);
                four |= count == 1 && top == 4;
                three |= count == 2 && desk.degree(1) == 3;
                swap |= count == top - 1;
            }
        }
        if (top <= 2) {
            return top;
        }
        if (top == 3) {
            return swap ? 4 : 3;
        }
        if (three) {
            return four || swap ? 9 : 8;
        }
        return swap ? 7 : four ? 6 : 5;
    }

    /** What is in common is the product of the common parts, each as often as in the one that has it less often. */
    private static void commonAgainstParts() {
        for (int n = 0; n < 800; n++) {
            GaloisDesk desk = new GaloisDesk();
            Check.load(desk, 2, nextRow(1 + n % 3, 3));
            Check.load(desk, 3, nextRow(n % 4, 3));
            Check.load(desk, 4, nextRow(n / 4 % 4, 3));
            if (desk.multiply(0, 2, 3) < 0 || desk.multiply(1, 2, 4) < 0) {
                continue;
            }
            desk.parts(0);
            List<long[]> first = listOfParts(desk);
            desk.parts(1);
            List<long[]> second = listOfParts(desk);
            long[] due = {1};
            for (long[] part : first) {
                if (removeSame(second, part)) {
                    due = product(due, part);
                }
            }
            Check.same("common " + n, desk.common(5, 0, 1), topOf(due));
            for (int k = 0; k < 7; k++) {
                Check.same("common " + n + " at " + k, desk.get(5, k), k < due.length ? due[k] : 0);
            }
        }
    }

    private static List<long[]> listOfParts(GaloisDesk desk) {
        List<long[]> list = new ArrayList<>();
        for (int i = 0; i < 6; i++) {
            for (int t = 0; t < desk.times(i); t++) {
                list.add(partOf(desk, i));
            }
        }
        return list;
    }

    private static boolean removeSame(List<long[]> list, long[] row) {
        for (int i = 0; i < list.size(); i++) {
            if (java.util.Arrays.equals(list.get(i), row)) {
                list.remove(i);
                return true;
            }
        }
        return false;
    }

    private static void productsDivideBack() {
        for (int n = 0; n < 800; n++) {
            GaloisDesk desk = new GaloisDesk();
            int[] row = nextRow(n % 4, 8);
            Check.load(desk, 0, row);
            Check.load(desk, 1, nextRow(n / 4 % 4, 5));
            if (desk.multiply(2, 0, 1) == GaloisDesk.FULL || desk.get(1, 0) == 0) {
                continue;
            }
            Check.same("divide back " + n, desk.divide(3, 2, 1), topOf(row));
            Check.slot("divide back " + n, desk, 3, row);
        }
    }
}
