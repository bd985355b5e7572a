import java.util.Random;

/**
 * Calls that are refused change nothing: of two objects with the same calls, one gets refused calls in
 * between, and they must go on answering alike.
 */
public final class RefusedTest {
    private static final int RUNS = 1500;
    /** Each step is one call to the one and two to the other, which is good for 512. */
    private static final int STEPS = 250;
    private static final int MIN = Integer.MIN_VALUE;
    private static final int MAX = Integer.MAX_VALUE;
    private static final int[] NO_FORMS = {-2, 4, 5, MIN, MAX};
    private static final int[] NO_SIZES = {0, -1, 64001, MIN, MAX};
    private static final int[] NO_NUMBERS = {-32769, 32768, 65536, MIN, MAX};
    private static final int[] NO_RULES = {-1, 16, 17, MIN, MAX};
    private static final int[] NO_WHATS = {-1, 5, 6, MIN, MAX, 1 << 30};
    private static final int[] NO_WAYS = {-2001, 2001, 32768, MIN, MAX};

    private final Random random;
    private final BitCopier plain = new BitCopier();
    private final BitCopier vexed = new BitCopier();
    private String name = "";

    private RefusedTest(int seed) {
        random = new Random(seed);
    }

    public static void main(String[] args) {
        for (int seed = 0; seed < RUNS && Check.allRight(); seed++) {
            RefusedTest run = new RefusedTest(seed);
            for (int step = 0; step < STEPS; step++) {
                run.name = "seed " + seed + " step " + step + " ";
                run.refused();
                run.alike();
            }
        }
        Check.end();
    }

    private void refused() {
        switch (random.nextInt(7)) {
            case 0 -> refusedForm();
            case 1 -> refusedPut();
            case 2 -> refusedForms();
            case 3 -> Check.due(name + "rule", vexed.rule(one(NO_RULES)), false);
            case 4 -> refusedSet();
            case 5 -> Check.due(name + "line", refusedLine(), -1);
            default -> refusedQuestion();
        }
    }

    private void refusedForm() {
        int f = random.nextInt(4);
        int answer = switch (random.nextInt(4)) {
            case 0 -> vexed.form(one(NO_FORMS), 20, 20);
            case 1 -> vexed.form(f, one(NO_SIZES), 20);
            case 2 -> vexed.form(f, 20, one(NO_SIZES));
            default -> vexed.form(f, 17, 2001);
        };
        Check.due(name + "form", answer, -1);
    }

    private void refusedPut() {
        boolean answer = switch (random.nextInt(3)) {
            case 0 -> vexed.put(one(NO_FORMS), 0, -1);
            case 1 -> vexed.put(random.nextInt(4), -1 - random.nextInt(20), -1);
            default -> vexed.put(random.nextInt(4), 4000 + random.nextInt(20), -1);
        };
        Check.due(name + "put", answer, false);
    }

    private void refusedForms() {
        int f = random.nextInt(4);
        int g = random.nextInt(5) - 1;
        boolean answer = switch (random.nextInt(4)) {
            case 0 -> vexed.forms(-1, g, -1);
            case 1 -> vexed.forms(one(NO_FORMS), g, -1);
            case 2 -> vexed.forms(f, one(NO_FORMS), -1);
            default -> vexed.forms(f, g, one(NO_FORMS));
        };
        Check.due(name + "forms", answer, false);
    }

    private void refusedSet() {
        int what = random.nextInt(5);
        boolean answer = switch (random.nextInt(3)) {
            case 0 -> vexed.set(one(NO_WHATS), 1, 1);
            case 1 -> vexed.set(what, one(NO_NUMBERS), 1);
            default -> vexed.set(what, 1, one(NO_NUMBERS));
        };
        Check.due(name + "set", answer, false);
    }

    private int refusedLine() {
        int way = random.nextInt(20) - 10;
        return random.nextBoolean() ? vexed.line(one(NO_WAYS), way) : vexed.line(way, one(NO_WAYS));
    }

    private void refusedQuestion() {
        int f = one(NO_FORMS);
        switch (random.nextInt(5)) {
            case 0 -> Check.due(name + "word", vexed.word(f, 0), -1);
            case 1 -> Check.due(name + "bit", vexed.bit(f, 0, 0), -1);
            case 2 -> Check.due(name + "count", vexed.count(f), -1);
            case 3 -> Check.due(name + "same", vexed.same(f, 0), false);
            default -> Check.due(name + "order", vexed.order(one(NO_WHATS), random.nextBoolean()), 0);
        }
    }

    private int one(int[] of) {
        return of[random.nextInt(of.length)];
    }

    /** The same call to both; a copy and a line may be refused here for their pattern, to both alike. */
    private void alike() {
        int f = random.nextInt(4);
        int a = random.nextInt(60) - 10;
        int b = random.nextInt(60) - 10;
        switch (random.nextInt(13)) {
            case 0 -> {
                int width = random.nextInt(3) == 0 ? 1 + random.nextInt(50) : 16;
                int height = random.nextInt(3) == 0 ? 1 + random.nextInt(50) : 16;
                due("form", plain.form(f, width, height), vexed.form(f, width, height));
            }
            case 1, 2 -> due("put", plain.put(f, a, b * 1001), vexed.put(f, a, b * 1001));
            case 3 -> {
                int source = random.nextInt(5) - 1;
                int pattern = random.nextInt(5) - 1;
                due("forms", plain.forms(f, source, pattern), vexed.forms(f, source, pattern));
            }
            case 4 -> due("rule", plain.rule(a & 15), vexed.rule(a & 15));
            case 5, 6 -> due("set", plain.set(a % 5, a, b), vexed.set(a % 5, a, b));
            case 7 -> due("copy", plain.copy(), vexed.copy());
            case 8 -> due("line", plain.line(a, b), vexed.line(a, b));
            case 9 -> due("count", plain.count(f), vexed.count(f));
            case 10 -> due("word", plain.word(f, a), vexed.word(f, a));
            case 11 -> due("bit", plain.bit(f, a, b), vexed.bit(f, a, b));
            default -> due("order", plain.order(a % 5, b > 20), vexed.order(a % 5, b > 20));
        }
    }

    private void due(String call, int plainAnswer, int vexedAnswer) {
        Check.due(name + call, vexedAnswer, plainAnswer);
    }

    private void due(String call, boolean plainAnswer, boolean vexedAnswer) {
        Check.due(name + call, vexedAnswer, plainAnswer);
    }
}
