import java.math.BigInteger;

/** The boundaries that the document's 'Terms' name, sentence by sentence: each has a test of its own. */
public final class TermsTest extends Checks {

    private static final long STEP = 0x9E3779B97F4A7C15L;
    private static final int[] FILE_EDGES = {1, 2, 4, 5, 15, 16, 17, 31, 32, 33, 47, 48, 49, 63, 64};
    private static final int[] EDGE_WORDS = {0, 1, P - 2, P - 1};
    private static final int INVERSE_OF_MULTIPLIER = inverseOf(1103515245);

    public static void main(String[] args) {
        theField();
        sumsAreModuloP();
        differencesAreModuloP();
        productsAreModuloP();
        quotientsAreModuloP();
        theKeyIsZeroAtFirst();
        theSecretIsOfLongs();
        theSecretIsModuloP();
        theBufferHas64Words();
        theBufferIsZeroAtFirst();
        thereAreThreeFiles();
        aFileHasOneTo64Words();
        aFileHasTheBufferAsItWas();
        groupsOfSixteen();
        wordsBehindTheLastOneAreZero();
        sixRowsOfFourWords();
        theCodedRows();
        anyFourRowsGiveTheOthers();
        alphasAndMasks();
        theFileHasTheKey();
        thereAreFourKeepers();
        aLostRowCountsAsZeros();
        aChallengeIsDrawnInInts();
        aChallengeGoesOnBehindTheLastRow();
        aChallengeNeverAsksTwice();
        coefficients();
        theAnswer();
        anAnswerHolds();
        goodRows();
        gatherTakesTheLeastRows();
        gatherTakesTheLeastKeeper();
        gatherFailsBelowFour();
        rowsOfAllKeepersAreEnough();
        gatherTakesNothingOfAnotherFile();
        noneIsBelowZero();
        theCallsOfAnObject();
        finish("the boundaries of the terms hold");
    }

    // ---- the field and the secret

    private static void theField() {
        about = "THE FIELD: the numbers 0 .. P - 1, P being 2147483647";
        for (int number : new int[] {0, 1, 2147483645, 2147483646}) {
            AuditDesk desk = placedDesk(1, 0);
            desk.challenge(0, 0, 1, 1);
            due("word(0, " + number + ")", desk.word(0, number), true);
            due("tamper(0, " + number + ")", desk.tamper(0, number), true);
            due("change(0, 0, 0, 0, " + number + ")", desk.change(0, 0, 0, 0, number),
                    ((long) bufferWord(0) + number) % P);
        }
        for (int number : new int[] {-1, -2, 2147483647, -2147483647, -2147483648}) {
            AuditDesk desk = placedDesk(1, 0);
            desk.challenge(0, 0, 1, 1);
            due("word(0, " + number + ")", desk.word(0, number), false);
            due("tamper(0, " + number + ")", desk.tamper(0, number), false);
            thrown("change(0, 0, 0, 0, " + number + ")", ARGUMENT, () -> desk.change(0, 0, 0, 0, number));
        }
    }

    private static void sumsAreModuloP() {
        about = "all sums are modulo P";
        for (int w : EDGE_WORDS) {
            for (int d : EDGE_WORDS) {
                AuditDesk desk = new AuditDesk();
                desk.word(0, w);
                desk.file(1);
                desk.place(0, 0);
                int sum = (int) (((long) w + d) % P);
                due(w + " and " + d + ": change(0, 0, 0, 0, d)", desk.change(0, 0, 0, 0, d), sum);
                due(w + " and " + d + ": kept(0, 0, 0, 0)", desk.kept(0, 0, 0, 0), sum);
                desk.challenge(0, 0, 5, 2);
                long number = desk.asked(2, 0);
                desk.tamper(0, d);
                due(number + " and " + d + ": asked(2, 0)", desk.asked(2, 0), (number + d) % P);
                desk.tamper(0, (int) (P - desk.asked(2, 0)) % P);
                due("a sum that is P just so: asked(2, 0)", desk.asked(2, 0), 0);
            }
        }
    }

    private static void differencesAreModuloP() {
        about = "all differences are modulo P";
        int[] lost = {0, 1};
        for (int least : EDGE_WORDS) {
            for (int next : EDGE_WORDS) {
                AuditDesk desk = new AuditDesk();
                desk.word(0, least);
                desk.word(4, next);
                desk.file(16);
                desk.place(0, 3);
                for (int row : lost) {
                    desk.lose(3, 0, row);
                }
                desk.fetch(0);
                due("fetched(0), worked out of the coded rows", desk.fetched(0), least);
                due("fetched(4), worked out of the coded rows", desk.fetched(4), next);
                due("fetched(8), worked out of the coded rows", desk.fetched(8), 0);
            }
        }
    }

    private static void productsAreModuloP() {
        about = "all products are modulo P";
        long a = keyFor((P - 1L) << 33, 7, 0);
        AuditDesk desk = new AuditDesk();
        desk.key(a, 7);
        for (int i = 0; i < 16; i += 4) {
            desk.word(i, i == 0 ? P - 1 : P - 2);
        }
        desk.file(16);
        due("(P - 1) * (P - 1) in made(0, 0, 4)", desk.made(0, 0, 4), (mask(a, 7, 0, 0) + 1) % P);
        due("(P - 1) * (P - 2) in made(0, 1, 4)", desk.made(0, 1, 4), (mask(a, 7, 0, 1) + 2) % P);
        desk.place(0, 0);
        due("a challenge of row 2", desk.challenge(0, 0, before(before(-5)), 1), 2);
        due("asked(1, 0)", desk.asked(1, 0), P - 1);
        due("(P - 1) * (P - 2): asked(2, 0)", desk.asked(2, 0), 2);
        due("judge()", desk.judge(), true);
    }

    private static void quotientsAreModuloP() {
        about = "all quotients are modulo P";
        int[] parts = {0, 1, 1073741824, 1431655765, 536870912, 858993459};
        for (int r = 0; r < 4; r++) {
            AuditDesk desk = new AuditDesk();
            desk.word(4 * r + 2, 1);
            desk.file(16);
            for (int c = 0; c < 2; c++) {
                due("1 / " + (4 + c - r) + ": made(0, " + (4 + c) + ", 2)", desk.made(0, 4 + c, 2), parts[4 + c - r]);
                due("0 / " + (4 + c - r) + ": made(0, " + (4 + c) + ", 1)", desk.made(0, 4 + c, 1), 0);
            }
        }
    }

    private static void theKeyIsZeroAtFirst() {
        about = "The KEY is two longs a, b (0, 0 at first)";
        AuditDesk desk = new AuditDesk();
        AuditDesk same = new AuditDesk();
        same.key(0, 0);
        desk.file(1);
        same.file(1);
        for (int row = 0; row < 6; row++) {
            due("made(0, " + row + ", 4)", desk.made(0, row, 4), secret(0, 0, 8 + row));
            due("made(0, " + row + ", 4) with key(0, 0)", same.made(0, row, 4), secret(0, 0, 8 + row));
        }
    }

    private static void theSecretIsOfLongs() {
        about = "The SECRET of n: x being a + n * 0x9E3779B97F4A7C15 (as longs)";
        long[] edges = {0, 1, -1, Long.MAX_VALUE, Long.MIN_VALUE, 0xFFFFFFFFL, -STEP, -159 * STEP};
        for (long a : edges) {
            for (long b : edges) {
                AuditDesk desk = new AuditDesk();
                desk.key(a, b);
                for (int file = 0; file < 3; file++) {
                    desk.file(64);
                    for (int row = 0; row < 24; row++) {
                        due("made(" + file + ", " + row + ", 4) with the key " + a + ", " + b,
                                desk.made(file, row, 4), bigSecret(a, b, 64 * file + 8 + row));
                    }
                }
            }
        }
    }

    private static void theSecretIsModuloP() {
        about = "The SECRET of n: then (x >>> 33) modulo P";
        for (long b : new long[] {0, 1, -1, Long.MAX_VALUE, Long.MIN_VALUE}) {
            dueMask(-1L, b, 0);
            dueMask((long) P << 33, b, 0);
            dueMask(((long) P << 33) - 1, b, P - 1);
            dueMask((P - 1L) << 33, b, P - 1);
            dueMask(1L << 33, b, 1);
            dueMask((1L << 33) - 1, b, 0);
            dueMask(0, b, 0);
            dueMask(Long.MAX_VALUE, b, 1073741823);
            dueMask(Long.MIN_VALUE, b, 1073741824);
        }
    }

    /** The tag of a row of zeros is its mask: with the right key, the secret of a wanted end. */
    private static void dueMask(long end, long b, int want) {
        for (int row : new int[] {0, 5}) {
            AuditDesk desk = new AuditDesk();
            desk.key(keyFor(end, b, 8 + row), b);
            desk.file(1);
            due("the mask of row " + row + ", x being " + end + " at the end", desk.made(0, row, 4), want);
        }
        AuditDesk desk = new AuditDesk();
        long a = keyFor(end, b, 3);
        desk.key(a, b);
        desk.word(3, P - 1);
        desk.file(4);
        due("ALPHA 3 times P - 1, x being " + end + " at the end", desk.made(0, 0, 4),
                (mask(a, b, 0, 0) + (P - 1L) * want) % P);
    }

    /** The a with which x ends as told in the secret of n: each step of the secret taken back. */
    private static long keyFor(long end, long b, int n) {
        long x = end;
        for (int i = 0; i < 4; i++) {
            x = shiftedBack(x - b, 31);
            x = shiftedBack(x * inverseOf(0x94D049BB133111EBL), 27);
            x = shiftedBack(x * inverseOf(0xBF58476D1CE4E5B9L), 30);
        }
        return x - n * STEP;
    }

    private static long shiftedBack(long x, int shift) {
        long y = x;
        for (int i = 0; i < 64 / shift; i++) {
            y = x ^ (y >>> shift);
        }
        return y;
    }

    private static long inverseOf(long odd) {
        long inverse = 1;
        for (int i = 0; i < 6; i++) {
            inverse *= 2 - odd * inverse;
        }
        return inverse;
    }

    private static int inverseOf(int odd) {
        return (int) inverseOf((long) odd);
    }

    private static long bigSecret(long a, long b, int n) {
        BigInteger two64 = BigInteger.ONE.shiftLeft(64);
        BigInteger x = big(a).add(big(n).multiply(new BigInteger("9E3779B97F4A7C15", 16))).mod(two64);
        for (int i = 0; i < 4; i++) {
            x = x.xor(x.shiftRight(30)).multiply(new BigInteger("BF58476D1CE4E5B9", 16)).mod(two64);
            x = x.xor(x.shiftRight(27)).multiply(new BigInteger("94D049BB133111EB", 16)).mod(two64);
            x = x.xor(x.shiftRight(31)).add(big(b)).mod(two64);
        }
        return x.shiftRight(33).mod(big(P)).longValueExact();
    }

    private static BigInteger big(long n) {
        return BigInteger.valueOf(n);
    }

    // ---- the buffer and the files

    private static void theBufferHas64Words() {
        about = "THE BUFFER has 64 WORDS";
        AuditDesk desk = new AuditDesk();
        for (int i = 0; i < 64; i++) {
            due("word(" + i + ", i + 1)", desk.word(i, i + 1), true);
        }
        for (int i : new int[] {-1, 64, 65, MAX, MIN}) {
            due("word(" + i + ", 1)", desk.word(i, 1), false);
        }
        desk.file(64);
        for (int i = 0; i < 64; i++) {
            due("word " + i, desk.made(0, i / 16 * 6 + i % 16 / 4, i % 4), i + 1);
        }
    }

    private static void theBufferIsZeroAtFirst() {
        about = "THE BUFFER has 64 WORDS, 0 at first";
        AuditDesk desk = new AuditDesk();
        desk.file(64);
        for (int i = 0; i < 64; i++) {
            due("word " + i, desk.made(0, i / 16 * 6 + i % 16 / 4, i % 4), 0);
        }
    }

    private static void thereAreThreeFiles() {
        about = "FILES 0 .. 2";
        AuditDesk desk = new AuditDesk();
        for (int file = 0; file < 3; file++) {
            int next = file;
            thrown("made(" + file + ", 0, 0) before it is made", INDEX, () -> desk.made(next, 0, 0));
            due("file(1)", desk.file(1), file);
            due("made(" + file + ", 0, 0)", desk.made(file, 0, 0), 0);
        }
        thrown("file(1) with three files", STATE, () -> desk.file(1));
        thrown("made(3, 0, 0)", INDEX, () -> desk.made(3, 0, 0));
        thrown("made(-1, 0, 0)", INDEX, () -> desk.made(-1, 0, 0));
    }

    private static void aFileHasOneTo64Words() {
        about = "a file of n words, 1 .. 64";
        for (int n = 1; n <= 64; n++) {
            AuditDesk desk = new AuditDesk();
            due("file(" + n + ")", desk.file(n), 0);
            due("score(-1, 0)", desk.score(-1, 0), n);
        }
        for (int n : new int[] {0, -1, 65, 128, MAX, MIN}) {
            thrown("file(" + n + ")", ARGUMENT, () -> new AuditDesk().file(n));
        }
    }

    private static void aFileHasTheBufferAsItWas() {
        about = "a file has the first n words of the buffer as they were when it was made";
        AuditDesk desk = deskWithFile(64);
        desk.place(0, 1);
        for (int i = 0; i < 64; i++) {
            desk.word(i, 5);
        }
        desk.file(64);
        desk.place(0, 2);
        desk.fetch(0);
        for (int i = 0; i < 64; i++) {
            int row = i / 16 * 6 + i % 16 / 4;
            due("word " + i + " of file 0", desk.made(0, row, i % 4), bufferWord(i));
            due("fetched(" + i + ") of file 0", desk.fetched(i), bufferWord(i));
            due("word " + i + " of file 0 placed later", desk.kept(2, 0, row, i % 4), bufferWord(i));
            due("word " + i + " of file 1", desk.made(1, row, i % 4), 5);
        }
    }

    private static void groupsOfSixteen() {
        about = "in GROUPS of 16";
        for (int n : FILE_EDGES) {
            AuditDesk desk = deskWithFile(n);
            due("score(-1, 1) of a file of " + n, desk.score(-1, 1), rowsOf(n));
            due("made(0, last row, 4) of a file of " + n, desk.made(0, rowsOf(n) - 1, 4) >= 0, true);
            thrown("made(0, behind the last row, 4) of a file of " + n, INDEX, () -> desk.made(0, rowsOf(n), 4));
        }
    }

    private static void wordsBehindTheLastOneAreZero() {
        about = "(words behind the last one are 0)";
        for (int n : FILE_EDGES) {
            AuditDesk desk = deskWithFile(64);
            due("file(" + n + ") behind one of 64", desk.file(n), 1);
            for (int i = 0; i < rowsOf(n) / 6 * 16; i++) {
                due("word " + i + " of a file of " + n, desk.made(1, i / 16 * 6 + i % 16 / 4, i % 4),
                        i < n ? bufferWord(i) : 0);
            }
        }
    }

    private static void sixRowsOfFourWords() {
        about = "A group g has the six ROWS 6 * g .. 6 * g + 5 of four words: row r has its words 4 * r .. 4 * r + 3";
        AuditDesk desk = deskWithFile(64);
        for (int g = 0; g < 4; g++) {
            for (int r : new int[] {0, 3}) {
                for (int j : new int[] {0, 3}) {
                    due("made(0, " + (6 * g + r) + ", " + j + ")", desk.made(0, 6 * g + r, j),
                            bufferWord(16 * g + 4 * r + j));
                }
            }
            dueTag(desk, 11, 22, 0, 6 * g);
            dueTag(desk, 11, 22, 0, 6 * g + 5);
        }
    }

    private static void theCodedRows() {
        about = "word j of row 4 + c is the sum of word j of the rows r = 0 .. 3 divided by 4 + c - r";
        for (int w : EDGE_WORDS) {
            AuditDesk desk = new AuditDesk();
            for (int i = 0; i < 64; i++) {
                desk.word(i, w);
            }
            desk.file(64);
            for (int row = 0; row < 24; row++) {
                for (int j = 0; j < 4 && row % 6 >= 4; j++) {
                    BigInteger sum = BigInteger.ZERO;
                    for (int r = 0; r < 4; r++) {
                        sum = sum.add(big(w).multiply(big(row % 6 - r).modInverse(big(P))));
                    }
                    due("made(0, " + row + ", " + j + "), all words being " + w, desk.made(0, row, j),
                            sum.mod(big(P)).longValueExact());
                }
                dueTag(desk, 0, 0, 0, row);
            }
        }
    }

    private static void anyFourRowsGiveTheOthers() {
        about = "(Any four rows give the others.)";
        for (int lost = 0; lost < 64; lost++) {
            if (Integer.bitCount(lost) > 2) {
                continue;
            }
            AuditDesk desk = new AuditDesk();
            for (int i = 0; i < 64; i++) {
                desk.word(i, EDGE_WORDS[(i * i / 3 + lost + i / 7) % 4]);
            }
            desk.file(64);
            desk.place(0, 1);
            for (int row = 0; row < 24; row++) {
                if ((lost >> row % 6 & 1) != 0) {
                    desk.lose(1, 0, row);
                }
            }
            due("repair(0, 1)", desk.repair(0, 1), 4 * Integer.bitCount(lost));
            dueAsMade(desk, 1, 0, 24);
        }
    }

    private static void alphasAndMasks() {
        about = "ALPHA j is the SECRET of 64 * file + j; the MASK of row i the SECRET of 64 * file + 8 + i";
        for (int j = 0; j < 4; j++) {
            AuditDesk desk = new AuditDesk();
            desk.key(-5, 6);
            desk.word(48 + j, 1);
            for (int file = 0; file < 3; file++) {
                desk.file(64);
                due("made(" + file + ", 0, 4)", desk.made(file, 0, 4), mask(-5, 6, file, 0));
                due("made(" + file + ", 18, 4), word " + j + " being 1", desk.made(file, 18, 4),
                        (mask(-5, 6, file, 18) + alpha(-5, 6, file, j)) % P);
                due("made(" + file + ", 21, 4)", desk.made(file, 21, 4), mask(-5, 6, file, 21));
                due("4 * (the tag of row 22 - its mask)",
                        4 * (desk.made(file, 22, 4) - mask(-5, 6, file, 22) + P) % P, alpha(-5, 6, file, j));
                due("5 * (the tag of row 23 - its mask)",
                        5 * (desk.made(file, 23, 4) - mask(-5, 6, file, 23) + P) % P, alpha(-5, 6, file, j));
            }
        }
    }

    private static void theFileHasTheKey() {
        about = "The file has the key as it was when it was made";
        AuditDesk desk = new AuditDesk();
        desk.key(8, 9);
        desk.key(10, 11);
        for (int file = 0; file < 3; file++) {
            desk.file(2);
            thrown("key(12, 13) with a file", STATE, () -> {
                desk.key(12, 13);
                return 0;
            });
            due("made(" + file + ", 5, 4)", desk.made(file, 5, 4), mask(10, 11, file, 5));
        }
    }

    // ---- the keepers

    private static void thereAreFourKeepers() {
        about = "KEEPERS 0 .. 3 can HAVE a file";
        AuditDesk desk = deskWithFile(17);
        desk.file(1);
        desk.file(33);
        for (int file = 0; file < 3; file++) {
            for (int keeper = 0; keeper < 4; keeper++) {
                due("place(" + file + ", " + keeper + ")", desk.place(file, keeper), true);
            }
            int number = file;
            thrown("place(" + file + ", -1)", INDEX, () -> desk.place(number, -1) ? 1 : 0);
            thrown("place(" + file + ", 4)", INDEX, () -> desk.place(number, 4) ? 1 : 0);
        }
        dueAsMade(desk, 0, 0, 12);
        dueAsMade(desk, 3, 2, 18);
    }

    private static void aLostRowCountsAsZeros() {
        about = "the row is LOST (it counts as four words and a tag 0)";
        AuditDesk desk = placedDesk(64, 2);
        for (int row = 0; row < 24; row++) {
            desk.lose(2, 0, row);
            for (int j = 0; j < 5; j++) {
                due("kept(2, 0, " + row + ", " + j + ")", desk.kept(2, 0, row, j), 0);
            }
        }
        desk.challenge(0, 2, 3, 24);
        for (int j = 0; j < 5; j++) {
            due("asked(2, " + j + "), all rows being lost", desk.asked(2, j), 0);
        }
        due("judge(), all rows being lost", desk.judge(), false);
        aLostRowAmongOthers();
        aLostRowWithoutAMask();
    }

    private static void aLostRowAmongOthers() {
        AuditDesk desk = placedDesk(64, 2);
        desk.challenge(0, 2, 3, 24);
        int row = desk.asked(0, 5);
        long[] before = new long[5];
        for (int j = 0; j < 5; j++) {
            before[j] = desk.asked(2, j);
        }
        desk.lose(2, 0, row);
        desk.challenge(0, 2, 3, 24);
        for (int j = 0; j < 5; j++) {
            long less = (long) desk.asked(1, 5) * desk.made(0, row, j) % P;
            due("asked(2, " + j + ") without row " + row, desk.asked(2, j), (before[j] - less + P) % P);
        }
    }

    /** With the mask 0 a lost row answers as it should, but it is not GOOD, being LOST. */
    private static void aLostRowWithoutAMask() {
        AuditDesk desk = new AuditDesk();
        desk.key(keyFor(0, 4, 8 + 2), 4);
        desk.file(1);
        desk.place(0, 0);
        desk.lose(0, 0, 2);
        int seed = seedThatDraws(new int[] {2}, 6);
        due("challenge(0, 0, " + seed + ", 1)", desk.challenge(0, 0, seed, 1), 2);
        due("judge() of a lost row whose mask is 0", desk.judge(), true);
        due("locate(0, 0) of a lost row whose mask is 0", desk.locate(0, 0), 1);
        due("found(0)", desk.found(0), 2);
    }

    // ---- challenges

    private static int seedThatDraws(int[] drawn, int rows) {
        for (int seed = 0; seed < 2000000; seed++) {
            if (draws(seed, drawn, rows)) {
                return seed;
            }
        }
        fault("no seed draws these rows");
        return 0;
    }

    private static boolean draws(int seed, int[] drawn, int rows) {
        int x = seed;
        for (int row : drawn) {
            x = x * 1103515245 + 12345;
            if ((x >>> 16) % rows != row) {
                return false;
            }
            x = x * 1103515245 + 12345;
        }
        return true;
    }

    private static int before(int state) {
        return (state - 12345) * INVERSE_OF_MULTIPLIER;
    }

    private static int after(int state) {
        return big(state).multiply(big(1103515245)).add(big(12345)).intValue();
    }

    private static void aChallengeIsDrawnInInts() {
        about = "x becomes x * 1103515245 + 12345 (as an int), the row is (x >>> 16) modulo the number of rows";
        int[] firsts = {0, 1, 65535, 65536, -1, -65536, -65537, MAX, MIN, MIN + 65536, 23 << 16, 24 << 16, 5 << 16};
        for (int n : new int[] {16, 32, 48, 64}) {
            AuditDesk desk = placedDesk(n, 1);
            for (int first : firsts) {
                long unsigned = first & 0xFFFFFFFFL;
                due("challenge(0, 1, " + before(first) + ", 1) of " + rowsOf(n) + " rows, x being " + first,
                        desk.challenge(0, 1, before(first), 1), unsigned / 65536 % rowsOf(n));
            }
            for (int seed : new int[] {0, 1, -1, 2, -2, MAX, MIN, 123456789, -123456789}) {
                int first = after(seed);
                due("challenge(0, 1, " + seed + ", 1) of " + rowsOf(n) + " rows",
                        desk.challenge(0, 1, seed, 1), (first & 0xFFFFFFFFL) / 65536 % rowsOf(n));
                due("asked(1, 0) of the seed " + seed, desk.asked(1, 0),
                        1 + (after(first) & 0xFFFFFFFFL) / 2 % 2147483646L);
            }
        }
    }

    private static void aChallengeGoesOnBehindTheLastRow() {
        about = "or the next one behind it (behind the last one row 0) that is not among them yet";
        for (int n : new int[] {16, 32, 48, 64}) {
            int last = rowsOf(n) - 1;
            dueRows(n, new int[] {3, 3}, new int[] {3, 4});
            dueRows(n, new int[] {last, last}, new int[] {last, 0});
            dueRows(n, new int[] {last, 0, last}, new int[] {last, 0, 1});
            dueRows(n, new int[] {0, last, last}, new int[] {0, last, 1});
            dueRows(n, new int[] {last - 1, last - 1, last - 1}, new int[] {last - 1, last, 0});
            dueRows(n, new int[] {0, 0, 1}, new int[] {0, 1, 2});
        }
    }

    private static void dueRows(int n, int[] drawn, int[] want) {
        int rows = rowsOf(n);
        int seed = seedThatDraws(drawn, rows);
        AuditDesk desk = placedDesk(n, 0);
        due("challenge(0, 0, " + seed + ", " + drawn.length + ") of " + rows + " rows",
                desk.challenge(0, 0, seed, drawn.length), want[0]);
        for (int i = 0; i < want.length; i++) {
            due("asked(0, " + i + ") of the seed " + seed + " and " + rows + " rows", desk.asked(0, i), want[i]);
        }
    }

    private static void aChallengeNeverAsksTwice() {
        about = "A CHALLENGE of m rows: a row that is not among them yet";
        for (int n : new int[] {1, 17, 33, 49}) {
            for (int seed : new int[] {0, -1, 77, MIN}) {
                AuditDesk desk = placedDesk(n, 3);
                desk.challenge(0, 3, seed, rowsOf(n));
                int seen = 0;
                for (int i = 0; i < rowsOf(n); i++) {
                    seen |= 1 << desk.asked(0, i);
                }
                due("the rows of a whole challenge", seen, (1 << rowsOf(n)) - 1);
                due("asked(0, " + rowsOf(n) + ")", desk.asked(0, rowsOf(n)), -1);
                due("judge()", desk.judge(), true);
            }
        }
    }

    private static void coefficients() {
        about = "its coefficient is 1 more than (x >>> 1) modulo (P - 1)";
        int[][] cases = {
            {0, 1}, {1, 1}, {2, 2}, {3, 2}, {-1, 2}, {-2, 2}, {-3, 1}, {-4, 1}, {-5, P - 1}, {-6, P - 1}, {-7, P - 2},
            {MAX, 1073741824}, {MIN, 1073741825}, {MIN + 1, 1073741825}};
        AuditDesk desk = placedDesk(20, 0);
        for (int[] one : cases) {
            desk.challenge(0, 0, before(before(one[0])), 1);
            due("asked(1, 0), x being " + one[0], desk.asked(1, 0), one[1]);
            due("judge(), x being " + one[0], desk.judge(), true);
        }
    }

    private static void theAnswer() {
        about = "The ANSWER is the sum, for each word j and for the tag, of the coefficients times that of its rows";
        for (int w : EDGE_WORDS) {
            AuditDesk desk = new AuditDesk();
            for (int i = 0; i < 64; i++) {
                desk.word(i, w);
            }
            desk.file(64);
            desk.place(0, 0);
            for (int m : new int[] {1, 2, 24}) {
                desk.challenge(0, 0, 1000 + m, m);
                for (int j = 0; j < 5; j++) {
                    BigInteger sum = BigInteger.ZERO;
                    for (int i = 0; i < m; i++) {
                        sum = sum.add(big(desk.asked(1, i)).multiply(big(desk.made(0, desk.asked(0, i), j))));
                    }
                    due("asked(2, " + j + ") of " + m + " rows, all words being " + w, desk.asked(2, j),
                            sum.mod(big(P)).longValueExact());
                }
            }
        }
    }

    private static void anAnswerHolds() {
        about = "It HOLDS if the tag is the sum of the coefficients times the masks, and of ALPHA j times the words j";
        AuditDesk desk = placedDesk(64, 1);
        for (int j = 0; j < 4; j++) {
            desk.challenge(0, 1, 17 + j, 23);
            desk.tamper(j, 1);
            due("judge() with 1 more for word " + j, desk.judge(), false);
            desk.tamper(4, (int) alpha(11, 22, 0, j));
            due("judge() with 1 more for word " + j + " and the tag that fits", desk.judge(), true);
            desk.tamper(4, P - 1);
            due("judge() with a tag of 1 less", desk.judge(), false);
        }
    }

    private static void goodRows() {
        about = "A row is GOOD if it is not LOST and its tag is the mask and the sum of ALPHA j times its words";
        AuditDesk desk = placedDesk(16, 1);
        for (int j = 0; j < 4; j++) {
            desk.change(1, 0, 5, j, P - 1);
            due("locate(0, 1) with 1 less for word " + j, desk.locate(0, 1), 1);
            desk.change(1, 0, 5, 4, (int) (P - alpha(11, 22, 0, j)) % P);
            due("locate(0, 1) with 1 less for word " + j + " and the tag that fits", desk.locate(0, 1), 0);
            desk.change(1, 0, 5, 4, 1);
            due("locate(0, 1) with a tag of 1 more", desk.locate(0, 1), 1);
            desk.change(1, 0, 5, 4, P - 1);
        }
        desk.lose(1, 0, 5);
        due("locate(0, 1) with a lost row", desk.locate(0, 1), 1);
    }

    // ---- to gather

    /** With the key 0, 0 the ALPHA 0 of file 0 is 0: a change of word 0 leaves a row GOOD, and shows who was taken. */
    private static AuditDesk weakDesk(int... keepers) {
        AuditDesk desk = new AuditDesk();
        for (int i = 0; i < 64; i++) {
            desk.word(i, 100 + i);
        }
        desk.file(64);
        for (int keeper : keepers) {
            desk.place(0, keeper);
        }
        return desk;
    }

    private static void gatherTakesTheLeastRows() {
        about = "for each group the four GOOD rows with the least numbers that any keeper has";
        for (int first = 0; first < 24; first += 6) {
            AuditDesk desk = weakDesk(2);
            desk.change(2, 0, first + 4, 0, 1);
            desk.change(2, 0, first + 5, 0, 1);
            desk.fetch(0);
            for (int r = 0; r < 4; r++) {
                int i = first / 6 * 16 + 4 * r;
                due("fetched(" + i + ") of the rows 0 .. 3", desk.fetched(i), 100 + i);
            }
            desk.change(2, 0, first + 4, 0, P - 1);
            desk.lose(2, 0, first);
            desk.fetch(0);
            due("fetched(" + first / 6 * 16 + ") of the rows 1 .. 4", desk.fetched(first / 6 * 16),
                    100 + first / 6 * 16);
            desk.lose(2, 0, first + 1);
            desk.fetch(0);
            due("fetched(" + first / 6 * 16 + ") of the rows 2 .. 5, one of them changed",
                    desk.fetched(first / 6 * 16) == 100 + first / 6 * 16, false);
        }
    }

    private static void gatherTakesTheLeastKeeper() {
        about = "(of one row the one that the least keeper has)";
        AuditDesk desk = weakDesk(3, 1, 2);
        desk.change(1, 0, 0, 0, 10);
        desk.change(2, 0, 0, 0, 20);
        desk.change(3, 0, 0, 0, 30);
        desk.change(3, 0, 20, 0, 30);
        desk.fetch(0);
        due("fetched(0), of keeper 1", desk.fetched(0), 110);
        due("fetched(56), of keeper 1", desk.fetched(56), 156);
        desk.change(1, 0, 0, 1, 1);
        desk.fetch(0);
        due("fetched(0), of keeper 2, keeper 1's not being GOOD", desk.fetched(0), 120);
        desk.lose(2, 0, 0);
        desk.fetch(0);
        due("fetched(0), of keeper 3, keeper 2's being LOST", desk.fetched(0), 130);
        desk.place(0, 0);
        desk.fetch(0);
        due("fetched(0), of keeper 0", desk.fetched(0), 100);
        due("fetched(56), of keeper 0", desk.fetched(56), 156);
    }

    private static void gatherFailsBelowFour() {
        about = "It FAILS if a group has not four";
        for (int n : new int[] {1, 16, 17, 32, 33, 48, 49, 64}) {
            for (int first = 0; first < rowsOf(n); first += 6) {
                AuditDesk desk = placedDesk(n, 0, 3);
                for (int r : new int[] {1, 4}) {
                    desk.lose(0, 0, first + r);
                    desk.change(3, 0, first + r, 2, 1);
                }
                due("fetch(0) of " + n + " words, a group having four", desk.fetch(0), n);
                desk.lose(0, 0, first + 3);
                due("fetch(0) of " + n + " words, a group having four of two keepers", desk.fetch(0), n);
                desk.change(3, 0, first + 3, 4, 1);
                thrown("fetch(0) of " + n + " words, a group having three", STATE, () -> desk.fetch(0));
                thrown("repair(0, 0) of " + n + " words, a group having three", STATE, () -> desk.repair(0, 0));
                thrown("repair(0, 1) of " + n + " words, a group having three", STATE, () -> desk.repair(0, 1));
                desk.change(3, 0, first + 3, 4, P - 1);
                due("repair(0, 1) of " + n + " words, a group having four again", desk.repair(0, 1), rowsOf(n));
                dueAsMade(desk, 1, 0, rowsOf(n));
            }
        }
        AuditDesk nobody = deskWithFile(1);
        thrown("fetch(0), nobody having the file", STATE, () -> nobody.fetch(0));
        thrown("repair(0, 3), nobody having the file", STATE, () -> nobody.repair(0, 3));
    }

    private static void rowsOfAllKeepersAreEnough() {
        about = "the four GOOD rows that any keeper has: one row that several have is one";
        AuditDesk desk = placedDesk(16, 0, 1, 2, 3);
        for (int keeper = 0; keeper < 4; keeper++) {
            for (int row = 0; row < 6; row++) {
                if (row != 5 - keeper) {
                    desk.lose(keeper, 0, row);
                }
            }
        }
        due("fetch(0), each keeper having one row", desk.fetch(0), 16);
        for (int i = 0; i < 16; i++) {
            due("fetched(" + i + ")", desk.fetched(i), bufferWord(i));
        }
        desk.lose(0, 0, 5);
        thrown("fetch(0), three keepers having one row each", STATE, () -> desk.fetch(0));
        AuditDesk same = placedDesk(16, 0, 1, 2, 3);
        for (int keeper = 0; keeper < 4; keeper++) {
            for (int row = 0; row < 3; row++) {
                same.lose(keeper, 0, 2 * row);
            }
        }
        thrown("fetch(0), four keepers having the same three rows", STATE, () -> same.fetch(0));
    }

    private static void gatherTakesNothingOfAnotherFile() {
        about = "of these the group's words are worked out, by the rows' rule";
        for (int low = 0; low < 4; low++) {
            for (int high = low; high < 4; high++) {
                AuditDesk desk = placedDesk(64, 1);
                for (int i = 0; i < 16; i++) {
                    desk.word(i, i + 1);
                }
                desk.file(16);
                desk.place(1, 1);
                desk.lose(1, 1, low);
                desk.lose(1, 1, high);
                for (int time = 0; time < 2; time++) {
                    desk.fetch(0);
                    desk.fetch(1);
                    for (int i = 0; i < 16; i++) {
                        due("fetched(" + i + ") without the rows " + low + " and " + high, desk.fetched(i), i + 1);
                    }
                }
            }
        }
    }

    // ---- the rest

    private static void noneIsBelowZero() {
        about = "The constants: NONE = -1";
        due("NONE", AuditDesk.NONE, -1);
    }

    private static void theCallsOfAnObject() {
        about = "An object is used for at most 512 calls after it has been made";
        AuditDesk desk = placedDesk(64, 0);
        desk.challenge(0, 0, 6, 24);
        int calls = 1 + 64 + 1 + 1 + 1;
        int judged = 0;
        while (calls < 511) {
            due("judge() as call " + (calls + 1), desk.judge(), true);
            judged++;
            calls++;
        }
        due("score(0, 0) as call 512", desk.score(0, 0), judged);
    }
}
