import java.util.ArrayList;
import java.util.List;

/** Arguments on the edges of their ranges, beyond them, and far off; and calls that are refused. */
final class Edges {
    /** Makes an object to begin with; each time the same one. */
    interface Start {
        Badgewood make();
    }

    interface Use {
        void on(Badgewood x);
    }

    /** A use with one of its arguments left open. */
    interface Pick {
        void with(Badgewood x, int number);
    }

    private static final int MANY = 64;

    private Edges() {
    }

    /** Takes what is within the range, and refuses what is one off it. */
    static void range(Class<? extends RuntimeException> refusal, int least, int greatest, Start start, Pick pick) {
        for (int number : within(least, greatest)) {
            taken(String.valueOf(number), start, x -> pick.with(x, number));
        }
        offByOne(refusal, least, greatest, start, pick);
    }

    static void offByOne(Class<? extends RuntimeException> refusal, int least, int greatest, Start start, Pick pick) {
        refused(String.valueOf(least - 1), refusal, start, x -> pick.with(x, least - 1));
        refused(String.valueOf(greatest + 1), refusal, start, x -> pick.with(x, greatest + 1));
    }

    /** Refuses what is far off, and changes nothing by that. */
    static void farOff(Class<? extends RuntimeException> refusal, int least, int greatest, Start start, Pick pick) {
        List<Integer> wild = outside(least, greatest);
        for (int number : wild) {
            refused(String.valueOf(number), refusal, start, x -> pick.with(x, number));
        }
        changesNothing("all far off", start, x -> {
            for (int number : wild) {
                tried(x, y -> pick.with(y, number));
            }
        });
    }

    /** There are 24 children with most(), nine with camp(), none in a new object; each is taken that there is. */
    static void child(Pick pick) {
        range(Check.INDEX, 0, 23, Starts::most, pick);
        offByOne(Check.INDEX, 0, 8, Starts::camp, pick);
        offByOne(Check.INDEX, 0, -1, Badgewood::new, pick);
    }

    static void troop(Pick pick) {
        range(Check.INDEX, 0, 5, Starts::most, pick);
        offByOne(Check.INDEX, 0, 2, Starts::camp, pick);
        offByOne(Check.INDEX, 0, -1, Badgewood::new, pick);
    }

    static void leader(Pick pick) {
        range(Check.INDEX, 0, 7, Starts::most, pick);
        offByOne(Check.INDEX, 0, 3, Starts::camp, pick);
        offByOne(Check.INDEX, 0, -1, Badgewood::new, pick);
    }

    static void event(Pick pick) {
        range(Check.INDEX, 0, 19, Starts::most, pick);
        offByOne(Check.INDEX, 0, 2, Starts::camp, pick);
        offByOne(Check.INDEX, 0, -1, Badgewood::new, pick);
    }

    static void taken(String what, Start start, Use use) {
        String got = "taken";
        try {
            use.on(start.make());
        } catch (RuntimeException e) {
            got = e.toString();
        }
        Check.due(what, got, "taken");
    }

    static void refused(String what, Class<? extends RuntimeException> refusal, Start start, Use use) {
        Badgewood x = start.make();
        Check.refuses(what, refusal, () -> use.on(x));
    }

    /** Is refused, and changes nothing by that. */
    static void refusedInVain(String what, Class<? extends RuntimeException> refusal, Start start, Use use) {
        refused(what, refusal, start, use);
        changesNothing(what, start, x -> tried(x, use));
    }

    /** An object of which the uses were refused tells all that its twin tells of which they were not asked. */
    static void changesNothing(String what, Start start, Use refused) {
        for (int part = 0; part < Told.PARTS; part++) {
            Badgewood x = start.make();
            refused.on(x);
            Check.due(what + " changes nothing, part " + part, Told.of(x, part), Told.of(start.make(), part));
        }
    }

    private static void tried(Badgewood x, Use use) {
        try {
            use.on(x);
        } catch (IllegalArgumentException | IllegalStateException | IndexOutOfBoundsException e) {
            // Which of them is thrown is looked at elsewhere; here only what stays behind counts.
        }
    }

    /** All of a short range; of a long one its ends and a few between. */
    private static List<Integer> within(int least, int greatest) {
        List<Integer> numbers = new ArrayList<>();
        boolean isShort = greatest - least < MANY;
        for (int number = least; number <= greatest; number += isShort ? 1 : (greatest - least) / 3) {
            numbers.add(number);
        }
        if (!isShort) {
            numbers.addAll(List.of(least + 1, greatest - 1, greatest));
        }
        return numbers;
    }

    /** Also what would fall into the range if it were cut to fewer bits, or lost its sign. */
    private static List<Integer> outside(int least, int greatest) {
        int[] wild = {
            least - 2, greatest + 2, -least, -greatest, least - 256, greatest + 256, least - 65536, greatest + 65536,
            Integer.MIN_VALUE, Integer.MIN_VALUE + least, Integer.MIN_VALUE + greatest, Integer.MAX_VALUE,
            Integer.MAX_VALUE - 1,
        };
        List<Integer> numbers = new ArrayList<>();
        for (int number : wild) {
            if (number < least || number > greatest) {
                numbers.add(number);
            }
        }
        return numbers;
    }
}
