import java.math.BigInteger;

/** Promises 30 to 34: cords of knots. */
public final class CordsTest {

    private static final Check CHECK = new Check("CordsTest");

    public static void main(String[] args) {
        cord();
        count();
        countFar();
        knots();
        lost();
        shown();
        CHECK.end();
    }

    private static void knotsAre(NumeralBabel x, int... want) {
        for (int cord = 0; cord < want.length; cord++) {
            CHECK.due("knots of " + cord, want[cord], x.knots(cord));
        }
    }

    private static void cord() {
        CHECK.promise(30);
        NumeralBabel x = new NumeralBabel();
        CHECK.due("10 at first", 10, x.cord(0, 2));
        CHECK.due("2 before", 2, x.cord(0, 60));
        CHECK.due("the last cord", 10, x.cord(5, 60));
        x.count(1234567890123L);
        CHECK.refused("cord -1", Check.OUT, () -> x.cord(-1, 10));
        CHECK.refused("cord 6", Check.OUT, () -> x.cord(6, 10));
        CHECK.refused("base 1", Check.ARGUMENT, () -> x.cord(0, 1));
        CHECK.refused("base 61", Check.ARGUMENT, () -> x.cord(0, 61));
        CHECK.refused("cord before base", Check.OUT, () -> x.cord(6, 61));
        CHECK.holds("knots as before", x.shown() > 0 && x.lost() > 0);
        CHECK.due("the same base told", 60, x.cord(0, 60));
        knotsAre(x, 0, 0, 0, 0, 0, 0);
        CHECK.due("nothing lost", 0, x.lost());
        CHECK.due("nothing shown", 0, x.shown());
        x.count(-1);
        knotsAre(x, 59, 9, 9, 9, 9, 59);
    }

    private static void count() {
        CHECK.promise(31);
        NumeralBabel x = new NumeralBabel();
        CHECK.due("by 0", 0, x.count(0));
        CHECK.due("by 7", 0, x.count(7));
        CHECK.due("by 5", 0, x.count(5));
        knotsAre(x, 2, 1, 0, 0, 0, 0);
        CHECK.due("by 999987", 0, x.count(999987));
        knotsAre(x, 9, 9, 9, 9, 9, 9);
        CHECK.due("one more", 1, x.count(1));
        knotsAre(x, 0, 0, 0, 0, 0, 0);
        CHECK.due("one less", -1, x.count(-1));
        knotsAre(x, 9, 9, 9, 9, 9, 9);
        CHECK.due("down to 0", 0, x.count(-999999));
        CHECK.due("just a round", 1, x.count(1000000));
        CHECK.due("a round back", -1, x.count(-1000000));
        CHECK.due("rounded down", -2, x.count(-1000001));
        x.cord(0, 2);
        x.cord(1, 3);
        CHECK.due("by bases of their own", 0, x.count(11));
        knotsAre(x, 1, 2, 1, 0, 0, 0);
    }

    /** Against numbers without a bound. */
    private static void countFar() {
        CHECK.promise(31);
        int[][] bases = {{10, 10, 10, 10, 10, 10}, {2, 2, 2, 2, 2, 2}, {60, 60, 60, 60, 60, 60}, {2, 3, 5, 7, 11, 60}};
        long[] steps = {59, Long.MAX_VALUE, Long.MAX_VALUE, 1, Long.MIN_VALUE, Long.MIN_VALUE, -1, Long.MAX_VALUE - 3};
        for (int[] told : bases) {
            NumeralBabel x = new NumeralBabel();
            BigInteger round = BigInteger.ONE;
            for (int cord = 0; cord < 6; cord++) {
                x.cord(cord, told[cord]);
                round = round.multiply(BigInteger.valueOf(told[cord]));
            }
            BigInteger shown = BigInteger.ZERO;
            for (int i = 0; i < 40; i++) {
                BigInteger sum = shown.add(BigInteger.valueOf(steps[i % steps.length]));
                shown = sum.mod(round);
                long lost = sum.subtract(shown).divide(round).longValueExact();
                CHECK.due("lost by " + steps[i % steps.length], lost, x.count(steps[i % steps.length]));
                CHECK.due("shown then", shown.longValueExact(), x.shown());
            }
        }
    }

    private static void knots() {
        CHECK.promise(32);
        NumeralBabel x = new NumeralBabel();
        x.count(654321);
        knotsAre(x, 1, 2, 3, 4, 5, 6);
        CHECK.refused("cord 6", Check.OUT, () -> x.knots(6));
        CHECK.refused("cord -1", Check.OUT, () -> x.knots(-1));
        CHECK.refused("greatest int", Check.OUT, () -> x.knots(Integer.MAX_VALUE));
    }

    private static void lost() {
        CHECK.promise(33);
        NumeralBabel x = new NumeralBabel();
        x.count(5000000);
        CHECK.due("5", 5, x.lost());
        x.count(-7000000);
        CHECK.due("-2", -2, x.lost());
        x.count(999999);
        CHECK.due("-2 still", -2, x.lost());
        x.count(1);
        CHECK.due("-1", -1, x.lost());
        for (int cord = 0; cord < 6; cord++) {
            x.cord(cord, 2);
        }
        long sum = 0;
        for (int i = 0; i < 70; i++) {
            sum += x.count(Long.MAX_VALUE);
        }
        CHECK.holds("it has gone over", sum < 0);
        CHECK.due("with overflow", sum, x.lost());
    }

    private static void shown() {
        CHECK.promise(34);
        NumeralBabel x = new NumeralBabel();
        x.count(123456);
        CHECK.due("123456", 123456, x.shown());
        x.count(-123457);
        CHECK.due("999999", 999999, x.shown());
        x.cord(0, 2);
        x.cord(2, 60);
        x.count(5);
        CHECK.due("5", 5, x.shown());
        x.count(-6);
        CHECK.due("a round less 1", 2L * 10 * 60 * 10 * 10 * 10 - 1, x.shown());
        for (int cord = 0; cord < 6; cord++) {
            x.cord(cord, 60);
        }
        x.count(-1);
        CHECK.due("beyond an int", 46655999999L, x.shown());
    }
}
