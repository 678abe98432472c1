/** The findings by their names, and tasks and numbers laid on a bench: what the tests by hand begin with. */
abstract class Laying {
    static final int BAD = -2;
    static final int NOT_SO = -3;
    static final int OPEN = -4;
    static final int BIG = -5;
    static final int NOTHING = -10;
    static final int PLACE = -11;
    static final int SORT = -12;
    static final int SIZE = -13;

    static final int LEAST = Integer.MIN_VALUE;
    static final int GREATEST = Integer.MAX_VALUE;

    static final String MAJORITY = "00010111";
    static final String PARITY = "01101001";
    /** Bit 0 chooses bit 1 or bit 2. */
    static final String CHOICE = "00100111";

    /** A bench with one task at PLACE 0: what its INPUTS say from 0 on, '2' for OPEN. */
    static QuestionBench bench(String says) {
        QuestionBench b = new QuestionBench();
        lay(b, 0, says);
        return b;
    }

    /** Sets no more INPUTS than it must, as an object is good for 512 calls. */
    static void lay(QuestionBench b, int p, String says) {
        int bits = Integer.numberOfTrailingZeros(says.length());
        long yes = says.chars().filter(said -> said == '1').count();
        boolean mostlyYes = 2 * yes > says.length();
        b.lose(5);
        b.task(p, bits, 5);
        if (mostlyYes) {
            b.made(p, p, 0, 0);
        }
        for (int x = 0; x < says.length(); x++) {
            if (says.charAt(x) != (mostlyYes ? '1' : '0')) b.set(p, x, says.charAt(x) - '0');
        }
    }

    static String saysOf(QuestionBench b, int p) {
        StringBuilder says = new StringBuilder();
        for (int x = 0; x < 1 << b.of(p, 1); x++) {
            says.append(b.say(p, x));
        }
        return says.toString();
    }

    static void tell(QuestionBench b, int... numbers) {
        for (int v : numbers) {
            b.tell(v);
        }
    }

    static String no(int bits) {
        return "0".repeat(1 << bits);
    }

    static String yes(int bits) {
        return "1".repeat(1 << bits);
    }

    static String open(int bits) {
        return "2".repeat(1 << bits);
    }

    /** The AND of all bits. */
    static String and(int bits) {
        return "0".repeat((1 << bits) - 1) + "1";
    }

    static String parity(int bits) {
        StringBuilder says = new StringBuilder();
        for (int x = 0; x < 1 << bits; x++) {
            says.append(Integer.bitCount(x) % 2);
        }
        return says.toString();
    }

    /** Another task that says v of x and is the same otherwise. */
    static String with(String says, int x, int v) {
        return says.substring(0, x) + v + says.substring(x + 1);
    }
}
