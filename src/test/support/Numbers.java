import java.util.ArrayList;
import java.util.List;

/** Numbers for an argument: all that are near to a border of the document, and those at which numbers wrap around. */
final class Numbers {
    private Numbers() {
    }

    static List<Integer> all() {
        List<Integer> numbers = new ArrayList<>();
        for (int i = -300; i <= 600; i++) {
            numbers.add(i);
        }
        for (int bit = 10; bit < 32; bit++) {
            // 97 and 4 are taken by some calls if only the lowest bytes of a number are looked at.
            for (int near : new int[] {-1, 0, 1, 4, 97}) {
                numbers.add((1 << bit) + near);
                numbers.add(near - (1 << bit));
            }
        }
        return numbers;
    }
}
