/** Brings a text to a desk the way feed() wants it: twenty bytes a call, blanks behind the end. */
final class Texts {
    private Texts() {
    }

    static void feed(BurstDesk desk, String text) {
        for (int at = 0; at < text.length(); at += 20) {
            int[] numbers = new int[5];
            for (int i = 0; i < 20; i++) {
                int sign = at + i < text.length() ? text.charAt(at + i) & 255 : ' ';
                numbers[i / 4] = numbers[i / 4] << 8 | sign;
            }
            desk.feed(numbers[0], numbers[1], numbers[2], numbers[3], numbers[4]);
        }
    }

    static int machine(BurstDesk desk, String text) {
        feed(desk, text);
        return desk.machine(text.length());
    }

    static String formula(BurstDesk desk, int f) {
        int length = desk.formula(f);
        if (length < 0) {
            return "none";
        }
        StringBuilder signs = new StringBuilder();
        for (int i = 0; i < length; i++) {
            signs.append((char) desk.sign(f, i));
        }
        return signs.toString();
    }

    /** The number of a CUBE that is told by its six signs a .. t: 0, 1 or - for any. */
    static int cube(String signs) {
        int number = 0;
        for (int i = 0; i < 6; i++) {
            char sign = signs.charAt(i);
            number = number * 3 + (sign == '-' ? 2 : sign - '0');
        }
        return number;
    }
}
