import java.util.function.LongSupplier;

/** What the tests share: how an answer is held against what is due, the document's secrets, and desks to begin with. */
abstract class Checks {

    static final int P = 2147483647;
    static final int MAX = Integer.MAX_VALUE;
    static final int MIN = Integer.MIN_VALUE;
    static final String ARGUMENT = "IllegalArgumentException";
    static final String STATE = "IllegalStateException";
    static final String INDEX = "IndexOutOfBoundsException";
    /** Of a desk that has file 0 alone. */
    static final int[] NO_FILES = {-1, 1, 2, 3, MAX, MIN};
    static final int[] NO_KEEPERS = {-1, 4, 5, MAX, MIN};
    static final int[] NO_FIELD_NUMBERS = {-1, P, MIN};

    /** What is being tested: it stands before each fault that is told. */
    static String about = "";
    static int wrong = 0;

    static void due(String call, long got, long want) {
        if (got != want) {
            fault(call + " answered " + got + ", due is " + want);
        }
    }

    static void due(String call, boolean got, boolean want) {
        if (got != want) {
            fault(call + " answered " + got + ", due is " + want);
        }
    }

    static void thrown(String call, String want, LongSupplier run) {
        String got = "nothing";
        try {
            run.getAsLong();
        } catch (RuntimeException e) {
            got = e.getClass().getSimpleName();
        }
        if (!got.equals(want)) {
            fault(call + " threw " + got + ", due is " + want);
        }
    }

    static void fault(String text) {
        wrong++;
        System.out.println(about + ": " + text);
    }

    static void finish(String text) {
        System.out.println(wrong == 0 ? text : wrong + " faults");
        if (wrong != 0) {
            System.exit(1);
        }
    }

    /** As the document words it, on its own lines, so that a slip in the class is not made here too. */
    static long secret(long a, long b, long n) {
        long x = a + n * 0x9E3779B97F4A7C15L;
        for (int i = 0; i < 4; i++) {
            x ^= x >>> 30;
            x *= 0xBF58476D1CE4E5B9L;
            x ^= x >>> 27;
            x *= 0x94D049BB133111EBL;
            x ^= x >>> 31;
            x += b;
        }
        return (x >>> 33) % P;
    }

    static long alpha(long a, long b, int file, int j) {
        return secret(a, b, 64L * file + j);
    }

    static long mask(long a, long b, int file, int row) {
        return secret(a, b, 64L * file + 8 + row);
    }

    static int bufferWord(int i) {
        return (int) ((123456789L * (i + 3) * (i + 7)) % P);
    }

    static int rowsOf(int n) {
        return n <= 16 ? 6 : n <= 32 ? 12 : n <= 48 ? 18 : 24;
    }

    /** Key 11, 22, a buffer full of great words, and file 0 of n words. */
    static AuditDesk deskWithFile(int n) {
        AuditDesk desk = new AuditDesk();
        desk.key(11, 22);
        for (int i = 0; i < 64; i++) {
            desk.word(i, bufferWord(i));
        }
        desk.file(n);
        return desk;
    }

    static AuditDesk placedDesk(int n, int... keepers) {
        AuditDesk desk = deskWithFile(n);
        for (int keeper : keepers) {
            desk.place(0, keeper);
        }
        return desk;
    }

    static void dueAsMade(AuditDesk desk, int keeper, int file, int rows) {
        for (int row = 0; row < rows; row++) {
            for (int j = 0; j < 5; j++) {
                due("kept(" + keeper + ", " + file + ", " + row + ", " + j + ")",
                        desk.kept(keeper, file, row, j), desk.made(file, row, j));
            }
            due("kept(" + keeper + ", " + file + ", " + row + ", 5)", desk.kept(keeper, file, row, 5), 0);
        }
    }

    static void dueTag(AuditDesk desk, long a, long b, int file, int row) {
        long tag = mask(a, b, file, row);
        for (int j = 0; j < 4; j++) {
            tag = (tag + alpha(a, b, file, j) * desk.made(file, row, j)) % P;
        }
        due("made(" + file + ", " + row + ", 4) with the key " + a + ", " + b, desk.made(file, row, 4), tag);
    }
}
