import java.util.ArrayList;
import java.util.List;
import java.util.Random;

/** Makes up texts of MACHINES: lawful ones mostly, with a seed so that each run makes the same. */
final class Machines {
    private final Random random;

    Machines(long seed) {
        random = new Random(seed);
    }

    /** States have values of their own; an arc changes what is unlike in its two states. */
    String text(boolean lawful) {
        int states = 1 + random.nextInt(6);
        int[] inputs = new int[states];
        int[] outputs = new int[states];
        boolean rich = random.nextBoolean();
        int inputMask = rich ? 15 : random.nextInt(16);
        int outputMask = rich ? 7 : random.nextInt(8);
        for (int i = 0; i < states; i++) {
            inputs[i] = random.nextInt(16) & inputMask;
            outputs[i] = random.nextInt(8) & outputMask;
        }
        List<String> lines = new ArrayList<>();
        for (int i = 0; i < states; i++) {
            lines.add("state " + random.nextInt(4));
        }
        // Where it begins need not be state 0, nor does its line stand at a place of its own.
        int begin = random.nextInt(3) == 0 ? random.nextInt(states) : 0;
        String beginLine = "begin " + begin + " " + letters("abcd", inputs[begin]) + "/ " + letters("pqr", outputs[begin]);
        List<int[]> arcs = arcs(states, begin, inputs, lawful);
        for (int[] arc : arcs) {
            int up = inputs[arc[1]] & ~inputs[arc[0]];
            int down = inputs[arc[0]] & ~inputs[arc[1]];
            int outUp = outputs[arc[1]] & ~outputs[arc[0]];
            int outDown = outputs[arc[0]] & ~outputs[arc[1]];
            if (!lawful && random.nextInt(10) == 0) {
                outUp ^= 1 << random.nextInt(3) & ~outDown;
            }
            if (!lawful && random.nextInt(20) == 0) {
                down = 1 << random.nextInt(4) & ~up;
            }
            if (up + down == 0) {
                continue;
            }
            lines.add("arc " + arc[0] + " " + arc[1] + " " + changes("abcd", up, down) + "/ "
                    + changes("pqr", outUp, outDown));
        }
        int gates = random.nextInt(4);
        for (int i = 0; i < gates; i++) {
            lines.add(gate());
        }
        lines.add(states + random.nextInt(lines.size() - states + 1), beginLine);
        return String.join(";", lines);
    }

    private List<int[]> arcs(int states, int begin, int[] inputs, boolean lawful) {
        List<int[]> arcs = new ArrayList<>();
        for (int i = 1; i < states; i++) {
            offer(arcs, (begin + random.nextInt(i)) % states, (begin + i) % states, inputs, lawful);
        }
        int more = random.nextInt(8);
        for (int i = 0; i < more; i++) {
            offer(arcs, random.nextInt(states), random.nextInt(states), inputs, lawful);
        }
        return arcs;
    }

    private void offer(List<int[]> arcs, int from, int to, int[] inputs, boolean lawful) {
        int changed = inputs[from] ^ inputs[to];
        if (changed == 0 || arcs.size() == 8) {
            return;
        }
        if (lawful) {
            for (int[] arc : arcs) {
                int other = inputs[arc[0]] ^ inputs[arc[1]];
                if (arc[0] == from && ((changed & ~other) == 0 || (other & ~changed) == 0)) {
                    return;
                }
            }
        }
        arcs.add(random.nextInt(arcs.size() + 1), new int[] {from, to});
    }

    String gate() {
        StringBuilder line = new StringBuilder("gate ");
        line.append("pqrst".charAt(random.nextInt(5)));
        for (int i = 0; i < 6; i++) {
            int way = random.nextInt(4);
            if (way < 2) {
                line.append(' ').append("abcdst".charAt(i)).append(way == 0 ? "'" : "");
            }
        }
        return line.toString();
    }

    private static String letters(String names, int bits) {
        StringBuilder text = new StringBuilder();
        for (int i = 0; i < names.length(); i++) {
            if ((bits >> i & 1) != 0) {
                text.append(names.charAt(i)).append(' ');
            }
        }
        return text.toString();
    }

    private static String changes(String names, int up, int down) {
        StringBuilder text = new StringBuilder();
        for (int i = 0; i < names.length(); i++) {
            if ((up >> i & 1) != 0) {
                text.append(names.charAt(i)).append("+ ");
            } else if ((down >> i & 1) != 0) {
                text.append(names.charAt(i)).append("- ");
            }
        }
        return text.toString();
    }
}
