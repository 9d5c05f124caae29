import java.util.List;
import java.util.TreeSet;

/** The numbers inside a range and round it, for the tests of what is too small, too large or wraps round. */
final class Edges {
    private Edges() {
    }

    static int[] inside(int least, int most) {
        int[] found = new int[most - least + 1];
        for (int i = 0; i < found.length; i++) {
            found[i] = least + i;
        }
        return found;
    }

    /** The neighbours of the range, and numbers that a cut to fewer bits or a wrap-around would bring into it. */
    static int[] outside(int least, int most) {
        TreeSet<Integer> found = new TreeSet<>(List.of(Integer.MIN_VALUE, Integer.MIN_VALUE + 1, Integer.MAX_VALUE - 1,
            Integer.MAX_VALUE));
        for (int i = 1; i <= 12; i++) {
            found.add(least - i);
            found.add(most + i);
        }
        for (int bit = 0; bit < 32; bit++) {
            for (int near : new int[] {-1, 0, 1, least, most}) {
                found.add((1 << bit) + near);
                found.add(near - (1 << bit));
            }
        }
        found.removeIf(number -> number >= least && number <= most);
        int[] numbers = new int[found.size()];
        int i = 0;
        for (int number : found) {
            numbers[i++] = number;
        }
        return numbers;
    }
}
