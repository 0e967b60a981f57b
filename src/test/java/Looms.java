/** Looms whose steps are written as texts, 'op a b c'; numbers that are left out are 0. */
final class Looms {
    private Looms() {
    }

    static int[] numbers(String step) {
        String[] parts = step.trim().split(" +");
        int[] numbers = new int[4];
        for (int i = 0; i < parts.length; i++) {
            numbers[i] = Integer.parseInt(parts[i]);
        }
        return numbers;
    }

    static int put(FaultLoom x, String step) {
        int[] n = numbers(step);
        return x.put(n[0], n[1], n[2], n[3]);
    }

    static FaultLoom loom(String... steps) {
        int[][] all = new int[steps.length][];
        for (int i = 0; i < steps.length; i++) {
            all[i] = numbers(steps[i]);
        }
        return Due.loom(all);
    }

    /** Started, and n steps at most done. */
    static FaultLoom at(int n, String... steps) {
        FaultLoom x = loom(steps);
        x.start();
        x.step(n);
        return x;
    }

    static FaultLoom ran(String... steps) {
        return at(100, steps);
    }

    /** What step(n) answers in a new run of these steps. */
    static int stepped(int n, String... steps) {
        FaultLoom x = loom(steps);
        x.start();
        return x.step(n);
    }

    /** The number of the failure that stops a run of these steps, 0 if it ends. */
    static int failure(String... steps) {
        FaultLoom x = ran(steps);
        return x.state(10) == 3 ? x.state(8) : x.state(10) == 2 ? 0 : -1;
    }

    /** Wr := value. */
    static String word(int r, int value) {
        return "1 " + r + " " + value;
    }

    /** Lr := value. */
    static String wide(int r, long value) {
        return "2 " + r + " " + (int) (value >> 32) + " " + (int) value;
    }

    /** So many steps of one kind. */
    static String[] times(int n, String step) {
        String[] steps = new String[n];
        java.util.Arrays.fill(steps, step);
        return steps;
    }

    static String[] join(String[] first, String... then) {
        String[] all = java.util.Arrays.copyOf(first, first.length + then.length);
        System.arraycopy(then, 0, all, first.length, then.length);
        return all;
    }

    /** Tr := a thing of a kind; W7 is how many places it has, and its TAG; T7 is NOTHING. */
    static String thing(int r, int kind) {
        if (kind == 10) {
            return "32 " + r + " 7 7";
        }
        if (kind == 15) {
            return "67 " + r + " 7 7";
        }
        return (kind < 10 ? "31 " : "33 ") + r + " " + kind + " 7";
    }

    /** Everything that the face tells of a loom but state(2) to state(4) and state(7) to state(10), as one text. */
    static String sight(FaultLoom x) {
        StringBuilder seen = new StringBuilder();
        seen.append(x.state(0)).append(' ').append(x.state(1)).append(' ').append(x.state(5)).append(' ').append(x.state(6));
        for (int r = 0; r < 8; r++) {
            seen.append("\nW ").append(x.word(r)).append(" L ").append(x.wide(r)).append(" F ").append(x.single(r))
                .append(" D ").append(x.real(r)).append(" T ").append(x.kind(r)).append(' ').append(x.size(r));
            for (int i = 0; i < 12; i++) {
                seen.append(' ').append(x.cell(r, i)).append(' ').append(x.point(r, i));
            }
            for (int what = 0; what < 3; what++) {
                seen.append(' ').append(x.field(r, what));
            }
            for (int q = 0; q < 8; q++) {
                seen.append(x.same(r, q) ? '=' : '.');
            }
        }
        for (int i = 0; i < 200; i++) {
            seen.append(' ').append(x.told(i));
        }
        return seen.toString();
    }
}
