import java.util.ArrayList;
import java.util.Arrays;
import java.util.List;

/** Polynomials in fractions, as rows of factors of 1, t, t^2 and so on; the empty row is 0. */
final class Polynomial {
    private Polynomial() {
    }

    /** The sum of binomial(n, k) * t^k * (1 - t)^(n - k) times number k. */
    static Ratio bernstein(List<Ratio> numbers, Ratio t) {
        int n = numbers.size() - 1;
        Ratio sum = Ratio.ZERO;
        for (int k = 0; k <= n; k++) {
            Ratio term = numbers.get(k).times(Ratio.of(binomial(n, k)));
            for (int j = 0; j < n; j++) {
                term = term.times(j < k ? t : Ratio.ONE.minus(t));
            }
            sum = sum.plus(term);
        }
        return sum;
    }

    private static long binomial(int n, int k) {
        return k == 0 || k == n ? 1 : binomial(n - 1, k - 1) + binomial(n - 1, k);
    }

    static List<Ratio> powerForm(List<Ratio> numbers) {
        int n = numbers.size() - 1;
        Ratio[] sum = new Ratio[n + 1];
        Arrays.fill(sum, Ratio.ZERO);
        for (int k = 0; k <= n; k++) {
            for (int j = 0; j <= n - k; j++) {
                long factor = binomial(n, k) * binomial(n - k, j) * (j % 2 == 0 ? 1 : -1);
                sum[k + j] = sum[k + j].plus(numbers.get(k).times(Ratio.of(factor)));
            }
        }
        return trimmed(Arrays.asList(sum));
    }

    private static List<Ratio> trimmed(List<Ratio> polynomial) {
        List<Ratio> result = new ArrayList<>(polynomial);
        while (!result.isEmpty() && result.get(result.size() - 1).isZero()) {
            result.remove(result.size() - 1);
        }
        return result;
    }

    static Ratio valueAt(List<Ratio> polynomial, Ratio t) {
        Ratio value = Ratio.ZERO;
        for (int k = polynomial.size() - 1; k >= 0; k--) {
            value = value.times(t).plus(polynomial.get(k));
        }
        return value;
    }

    static List<Ratio> derivative(List<Ratio> polynomial) {
        List<Ratio> result = new ArrayList<>();
        for (int k = 1; k < polynomial.size(); k++) {
            result.add(polynomial.get(k).times(Ratio.of(k)));
        }
        return trimmed(result);
    }

    private static List<Ratio> remainder(List<Ratio> a, List<Ratio> b) {
        List<Ratio> rest = new ArrayList<>(a);
        while (rest.size() >= b.size()) {
            Ratio factor = rest.get(rest.size() - 1).over(b.get(b.size() - 1));
            int shift = rest.size() - b.size();
            for (int k = 0; k < b.size(); k++) {
                rest.set(shift + k, rest.get(shift + k).minus(factor.times(b.get(k))));
            }
            rest = trimmed(rest);
        }
        return rest;
    }

    static List<Ratio> commonFactor(List<Ratio> first, List<Ratio> second) {
        List<Ratio> a = first;
        List<Ratio> b = second;
        while (!b.isEmpty()) {
            List<Ratio> rest = remainder(a, b);
            a = b;
            b = rest;
        }
        return a;
    }

    /** How many roots, each counted once, lie between two fractions that are no roots more than once; the last one counts. */
    private static int rootsUpTo(List<Ratio> polynomial, Ratio from, Ratio to) {
        List<Ratio> a = polynomial;
        List<Ratio> b = derivative(polynomial);
        int changesFrom = 0;
        int changesTo = 0;
        int signFrom = valueAt(a, from).sign();
        int signTo = valueAt(a, to).sign();
        while (!b.isEmpty()) {
            int nextFrom = valueAt(b, from).sign();
            int nextTo = valueAt(b, to).sign();
            changesFrom += nextFrom * signFrom < 0 ? 1 : 0;
            changesTo += nextTo * signTo < 0 ? 1 : 0;
            signFrom = nextFrom == 0 ? signFrom : nextFrom;
            signTo = nextTo == 0 ? signTo : nextTo;
            List<Ratio> rest = new ArrayList<>();
            for (Ratio number : remainder(a, b)) {
                rest.add(Ratio.ZERO.minus(number));
            }
            a = b;
            b = rest;
        }
        return changesFrom - changesTo;
    }

    /** The polynomial without its factors in common with its derivative: each root just once. */
    private static List<Ratio> simple(List<Ratio> polynomial) {
        List<Ratio> common = commonFactor(polynomial, derivative(polynomial));
        List<Ratio> rest = new ArrayList<>(polynomial);
        List<Ratio> quotient = new ArrayList<>();
        while (rest.size() >= common.size()) {
            Ratio factor = rest.get(rest.size() - 1).over(common.get(common.size() - 1));
            quotient.add(0, factor);
            int shift = rest.size() - common.size();
            for (int k = 0; k < common.size(); k++) {
                rest.set(shift + k, rest.get(shift + k).minus(factor.times(common.get(k))));
            }
            rest.remove(rest.size() - 1);
        }
        return quotient;
    }

    /** How many roots, each counted once, lie inside, without the ends: by Sturm's chain. */
    static int rootsInside(List<Ratio> polynomial, Ratio from, Ratio to) {
        List<Ratio> simple = simple(polynomial);
        return rootsUpTo(simple, from, to) - (valueAt(simple, to).isZero() ? 1 : 0);
    }

    /** The same with each root as often as it is one. */
    static int allRootsInside(List<Ratio> polynomial, Ratio from, Ratio to) {
        int roots = 0;
        for (List<Ratio> left = polynomial; left.size() > 1; left = commonFactor(left, derivative(left))) {
            roots += rootsInside(left, from, to);
        }
        return roots;
    }
}
