/** Code words by name, so that the tests' programs can be read. */
final class Words {
    static final int HALT = 0;
    static final int BREAK = 11;

    private Words() {
    }

    static int word(int o, int a, int b, int n) {
        return o | a << 4 | b << 6 | n << 8;
    }

    static int set(int a, int n) {
        return word(1, a, 0, n);
    }

    static int add(int a, int b) {
        return word(2, a, b, 0);
    }

    static int subtract(int a, int b) {
        return word(3, a, b, 0);
    }

    static int multiply(int a, int b) {
        return word(4, a, b, 0);
    }

    static int read(int a, int b) {
        return word(5, a, b, 0);
    }

    static int write(int a, int b) {
        return word(6, a, b, 0);
    }

    static int ifZero(int a, int place) {
        return word(7, a, 0, place);
    }

    static int ifBelow(int a, int place) {
        return word(8, a, 0, place);
    }

    static int jump(int place) {
        return word(9, 0, 0, place);
    }

    static int more(int a, int n) {
        return word(10, a, 0, n);
    }

    static void loadAt(TabledExecutive x, int place, int... words) {
        for (int i = 0; i < words.length; i++) {
            x.load(place + i, words[i]);
        }
    }
}
