import java.util.ArrayList;
import java.util.List;

/** The calls that take numbers, with the least and the greatest that each number may be. */
final class Face {
    /** A call with all its numbers. */
    static final class Asked {
        final String call;
        final int[] numbers;

        Asked(String call, int... numbers) {
            this.call = call;
            this.numbers = numbers;
        }

        /** RATE alone says otherwise that a number is not as told. */
        int bad() {
            return call.equals("rate") ? -1000000 : -1;
        }

        @Override
        public String toString() {
            return Run.shown(call, numbers);
        }
    }

    final String call;
    private final int[] low;
    private final int[] high;

    private Face(String call, int... lowHigh) {
        this.call = call;
        low = new int[lowHigh.length / 2];
        high = new int[lowHigh.length / 2];
        for (int i = 0; i < low.length; i++) {
            low[i] = lowHigh[2 * i];
            high[i] = lowHigh[2 * i + 1];
        }
    }

    /** All of them, in a republic of so many PEOPLE and NAMES. */
    static Face[] all(int people, int names) {
        int p = people - 1;
        int k = names - 1;
        return new Face[] {
            new Face("type", 0, 255), new Face("person", 0, p, 0, 7), new Face("quarrels", 0, p),
            new Face("name", 0, k, 0, 2), new Face("bill", 0, 4, 0, 3), new Face("now", 0, 7),
            new Face("hurts", 0, p, 0, 1), new Face("deeds", 0, p), new Face("earns", 0, p, -99, 99),
            new Face("names", 0, p, 0, k), new Face("laws", 0, 15), new Face("apart", -1, p),
            new Face("cheapest", 0, p), new Face("tells", 0, p, 0, 1), new Face("record", 0, 4, 0, 1),
            new Face("which", 0, 2), new Face("married", -1, p), new Face("odds", 0, k, 0, 6, 0, 20, 0, 1),
            new Face("rate", 0, 5, 0, p), new Face("keep", 0, 1), new Face("back", 0, 1), new Face("count", 0, 4)};
    }

    /** All its numbers at their ends, if there are such numbers. */
    List<Asked> allowed() {
        List<Asked> list = new ArrayList<>();
        for (int ends = 0; ends < 1 << low.length; ends++) {
            boolean any = true;
            for (int i = 0; i < low.length; i++) {
                any &= low[i] <= high[i];
            }
            if (any) {
                list.add(new Asked(call, ends(ends)));
            }
        }
        return list;
    }

    private int[] ends(int bits) {
        int[] numbers = new int[low.length];
        for (int i = 0; i < low.length; i++) {
            numbers[i] = (bits >> i & 1) == 1 ? high[i] : low[i];
        }
        return numbers;
    }

    /** One number is the first that is not allowed, or far off, on either side; the others are at their ends. */
    List<Asked> beyond() {
        List<Asked> list = new ArrayList<>();
        for (int i = 0; i < low.length; i++) {
            for (int ends = 0; ends < 1 << low.length; ends += (1 << low.length) - 1) {
                for (int off : new int[] {low[i] - 1, high[i] + 1, Integer.MIN_VALUE, Integer.MAX_VALUE}) {
                    int[] numbers = ends(ends);
                    numbers[i] = off;
                    list.add(new Asked(call, numbers));
                }
            }
        }
        return list;
    }

    /** All its numbers are beyond. */
    Asked allBeyond() {
        int[] numbers = new int[low.length];
        for (int i = 0; i < low.length; i++) {
            numbers[i] = high[i] + 1;
        }
        return new Asked(call, numbers);
    }
}
