/** The edges that the promises 30 to 34 name, sentence by sentence. */
public final class EdgesOfCordsTest {

    private static final Check CHECK = new Check("EdgesOfCordsTest");

    public static void main(String[] args) {
        cord();
        cordRefused();
        count();
        knots();
        lost();
        shown();
        CHECK.end();
    }

    private static NumeralBabel based(int base) {
        NumeralBabel x = new NumeralBabel();
        for (int cord = 0; cord < 6; cord++) {
            x.cord(cord, base);
        }
        return x;
    }

    private static void cord() {
        CHECK.sentence(30, "Tells the base of a cord; all knots of all cords are 0 then, and nothing was lost.");
        NumeralBabel x = new NumeralBabel();
        x.count(7654321);
        CHECK.due("lost before", 7, x.lost());
        x.cord(3, 5);
        for (int cord = 0; cord < 6; cord++) {
            CHECK.due("no knots", 0, x.knots(cord));
        }
        CHECK.due("nothing lost", 0, x.lost());
        CHECK.due("nothing shown", 0, x.shown());
        x.count(5000);
        CHECK.due("5 of the cord 3 are one of the cord 4", 1, x.knots(4));
        x.count(1234567);
        x.cord(3, 5);
        CHECK.due("so too with the base that it has", 0, x.shown() + x.lost());
        CHECK.sentence(30, "- `base`: 2 to 60");
        x.cord(0, 2);
        x.cord(5, 60);
        x.count(3);
        CHECK.due("base 2, a knot", 1, x.knots(0));
        CHECK.due("base 2, carried", 1, x.knots(1));
        x.count(-4);
        CHECK.due("base 60", 59, x.knots(5));
        CHECK.sentence(30, "Returns the one before.");
        CHECK.due("of the cord 0", 2, x.cord(0, 60));
        CHECK.due("of the cord 0 again", 60, x.cord(0, 2));
        CHECK.due("of the cord 5", 60, x.cord(5, 2));
        CHECK.due("10 at first", 10, x.cord(1, 10));
        CHECK.due("10 again", 10, x.cord(1, 11));
    }

    private static void cordRefused() {
        CHECK.sentence(30, "Throws `IndexOutOfBoundsException` as told");
        NumeralBabel x = new NumeralBabel();
        x.count(7654321);
        CHECK.refused("cord -1", Check.OUT, () -> x.cord(-1, 10));
        CHECK.refused("cord 6", Check.OUT, () -> x.cord(6, 10));
        CHECK.refused("cord ahead of base", Check.OUT, () -> x.cord(6, 61));
        CHECK.sentence(30, "Throws `IllegalArgumentException` if base is out of range");
        CHECK.refused("base 1", Check.ARGUMENT, () -> x.cord(0, 1));
        CHECK.refused("base 0", Check.ARGUMENT, () -> x.cord(0, 0));
        CHECK.refused("base -10", Check.ARGUMENT, () -> x.cord(0, -10));
        CHECK.refused("base 61", Check.ARGUMENT, () -> x.cord(5, 61));
        CHECK.due("as it was", 654321, x.shown());
        CHECK.due("lost as it was", 7, x.lost());
        CHECK.due("base as it was", 10, x.cord(0, 10));
    }

    private static void count() {
        CHECK.sentence(31, "Counts by some number.");
        NumeralBabel x = new NumeralBabel();
        x.count(58);
        x.count(-9);
        x.count(0);
        CHECK.due("49", 49, x.shown());
        CHECK.sentence(31, "- `by`: any");
        NumeralBabel y = based(60);
        long round = 46656000000L;
        CHECK.due("the greatest long", Long.MAX_VALUE / round, y.count(Long.MAX_VALUE));
        CHECK.due("what is left", Long.MAX_VALUE % round, y.shown());
        // With the greatest long ahead of it the least one makes -1.
        CHECK.due("the least long", -1 - Long.MAX_VALUE / round, y.count(Long.MIN_VALUE));
        CHECK.due("all knots", round - 1, y.shown());
        CHECK.due("the greatest long on all knots", Math.floorDiv(Long.MAX_VALUE - 1, round) + 1, y.count(Long.MAX_VALUE));
        CHECK.due("what is left of it", Math.floorMod(Long.MAX_VALUE - 1, round), y.shown());
        CHECK.due("nothing", 0, y.count(0));
        CHECK.sentence(31, "Returns what is lost by that, beyond the cord 5; below 0 if it is borrowed there.");
        NumeralBabel z = new NumeralBabel();
        CHECK.due("999999: nothing yet", 0, z.count(999999));
        CHECK.due("just beyond", 1, z.count(1));
        CHECK.due("just below", -1, z.count(-1));
        CHECK.due("by that, not all of it", 3, z.count(2000001));
        CHECK.due("nothing", 0, z.count(999999));
        CHECK.due("down to 0, nothing", 0, z.count(-999999));
        CHECK.due("two rounds back", -2, z.count(-2000000));
        CHECK.due("two rounds back and one", -3, z.count(-2000001));
    }

    private static void knots() {
        CHECK.sentence(32, "Returns the knots of a cord.");
        NumeralBabel x = new NumeralBabel();
        x.count(7654321);
        for (int cord = 0; cord < 6; cord++) {
            CHECK.due("knots", cord + 1, x.knots(cord));
        }
        CHECK.sentence(32, "Throws `IndexOutOfBoundsException` as told");
        CHECK.refused("cord -1", Check.OUT, () -> x.knots(-1));
        CHECK.refused("cord 6", Check.OUT, () -> x.knots(6));
        CHECK.refused("the least int", Check.OUT, () -> x.knots(Integer.MIN_VALUE));
        CHECK.refused("the greatest int", Check.OUT, () -> x.knots(Integer.MAX_VALUE));
    }

    /** By twos a round is 64, so 64 greatest longs lose just the greatest long. */
    private static void lost() {
        CHECK.sentence(33, "Returns the sum of all that was lost.");
        NumeralBabel x = based(2);
        CHECK.due("nothing", 0, x.lost());
        x.count(640);
        x.count(-65);
        CHECK.due("10, and 2 back", 8, x.lost());
        x.cord(0, 2);
        for (int i = 0; i < 64; i++) {
            x.count(Long.MAX_VALUE);
        }
        CHECK.due("as much as a long holds", Long.MAX_VALUE, x.lost());
        CHECK.due("a round more", 1, x.count(64));
        CHECK.due("wraps round", Long.MIN_VALUE, x.lost());
        CHECK.due("a round back", -1, x.count(-64));
        CHECK.due("wraps back", Long.MAX_VALUE, x.lost());
        x.cord(0, 2);
        for (int i = 0; i < 64; i++) {
            x.count(Long.MIN_VALUE);
        }
        CHECK.due("as little as a long holds", Long.MIN_VALUE, x.lost());
        CHECK.due("one less", -1, x.count(-1));
        CHECK.due("wraps round below", Long.MAX_VALUE, x.lost());
        CHECK.due("with all knots", 63, x.shown());
    }

    private static void shown() {
        CHECK.sentence(34, "Returns the number that the cords show: the knots of each, times the bases of all those ahead "
                + "of it, together.");
        NumeralBabel x = new NumeralBabel();
        CHECK.due("nothing", 0, x.shown());
        x.count(999999);
        CHECK.due("all knots", 999999, x.shown());
        x.count(1);
        CHECK.due("nothing, what is lost is not shown", 0, x.shown());
        int[] bases = {2, 3, 5, 7, 11, 60};
        for (int cord = 0; cord < 6; cord++) {
            x.cord(cord, bases[cord]);
        }
        long worth = 1;
        for (int cord = 0; cord < 6; cord++) {
            x.cord(0, 2);
            x.count(worth);
            CHECK.due("one knot", 1, x.knots(cord));
            CHECK.due("its worth", worth, x.shown());
            worth *= bases[cord];
        }
        NumeralBabel y = based(60);
        y.count(-1);
        CHECK.due("the greatest, beyond an int", 46655999999L, y.shown());
        NumeralBabel z = based(2);
        z.count(-1);
        CHECK.due("by twos", 63, z.shown());
    }
}
