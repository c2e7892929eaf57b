import java.util.ArrayList;
import java.util.List;
import java.util.Random;

/** An object knows of no other one, and the same calls always have the same answers. */
public final class ObjectsTest {
    private static final int PAIRS = 60;
    private static final int CALLS = 512;

    public static void main(String[] args) {
        for (int pair = 0; pair < PAIRS; pair++) {
            int[][] some = calls(2 * pair);
            int[][] others = calls(2 * pair + 1);
            List<Integer> alone = answers(some);
            Check.isTrue("the same calls again, " + pair, answers(some).equals(alone));
            Check.isTrue("the calls of two by turns, " + pair, answersBeside(some, others).equals(alone));
        }
        Check.end();
    }

    /** Each row: which call, and four numbers, of which it takes the first ones. */
    private static int[][] calls(int seed) {
        Random chance = new Random(seed);
        int[][] calls = new int[CALLS][];
        for (int k = 0; k < CALLS; k++) {
            int call = k < 9 ? k / 6 : chance.nextInt(17);
            int most = call < 2 ? 6 : 10;
            calls[k] = new int[] {call, chance.nextInt(most), chance.nextInt(most), chance.nextInt(4),
                chance.nextInt(4)};
        }
        return calls;
    }

    private static List<Integer> answers(int[][] calls) {
        GridStarts x = new GridStarts();
        List<Integer> answers = new ArrayList<>();
        for (int[] call : calls) {
            answers.add(answer(x, call));
        }
        return answers;
    }

    private static List<Integer> answersBeside(int[][] calls, int[][] others) {
        GridStarts x = new GridStarts();
        GridStarts other = new GridStarts();
        List<Integer> answers = new ArrayList<>();
        for (int k = 0; k < calls.length; k++) {
            answer(other, others[k]);
            answers.add(answer(x, calls[k]));
        }
        return answers;
    }

    private static int answer(GridStarts x, int[] call) {
        int a = call[1];
        int b = call[2];
        int c = call[3];
        return switch (call[0]) {
            case 0 -> x.line(a, b, c);
            case 1 -> x.machine(a, c == 0 ? 0 : b, 10 * c, call[4]);
            case 2 -> x.of(a, c);
            case 3 -> x.at(c, call[4] + 1);
            case 4 -> x.bus(a, c);
            case 5 -> x.can();
            case 6, 7 -> x.tick(a);
            case 8 -> c == 0 ? x.fail(call[4]) : x.tick(b);
            case 9 -> c == 0 ? x.trip(a) : x.tick(b);
            case 10 -> x.way(c, 1 << a, call[4] - 1);
            case 11 -> x.go(call[4], c == 0 ? 1 << a : 0);
            case 12 -> x.needed(c, 1 << a, call[4] % 2);
            case 13 -> x.ever(c % 2);
            case 14 -> c == 0 ? x.restore(call[4]) : x.image(call[4]);
            case 15 -> c == 0 && a == 0 ? x.dark() : x.tick(a);
            default -> x.count(a);
        };
    }
}
