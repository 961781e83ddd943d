/** The document's promises one by one: ordinary inputs, the edges that it names, and wrong inputs. */
public final class PromisesTest extends Checks {

    public static void main(String[] args) {
        about = "promise 1";
        aNewObject();
        about = "promise 2";
        key();
        about = "promise 3";
        word();
        about = "promise 4";
        file();
        fileEdges();
        about = "promise 5";
        place();
        about = "promise 6";
        lose();
        about = "promise 7";
        change();
        about = "promise 8";
        challenge();
        about = "promise 9";
        asked();
        about = "promise 10";
        tamper();
        about = "promise 11";
        judge();
        about = "promise 12";
        locate();
        about = "promise 13";
        found();
        about = "promise 14";
        repair();
        repairOfUnseenChanges();
        repairOfARowOfZeros();
        about = "promise 15";
        fetch();
        anyFourRowsGiveTheOthers();
        about = "promise 16";
        fetched();
        about = "promise 17";
        made();
        about = "promise 18";
        kept();
        about = "promise 19";
        rota();
        about = "promise 20";
        score();
        finish("all promises hold");
    }

    private static void aNewObject() {
        AuditDesk desk = new AuditDesk();
        due("score(-1, 0)", desk.score(-1, 0), -1);
        due("rota(0)", desk.rota(0), -1);
        due("fetched(0)", desk.fetched(0), -1);
        due("found(0)", desk.found(0), -1);
        due("asked(0, 0)", desk.asked(0, 0), -1);
        thrown("fetch(0)", INDEX, () -> desk.fetch(0));
        for (int keeper = 0; keeper < 4; keeper++) {
            for (int w = 0; w < 3; w++) {
                due("score(" + keeper + ", " + w + ")", desk.score(keeper, w), 0);
            }
        }
        due("file(64)", desk.file(64), 0);
        for (int row = 0; row < 24; row++) {
            for (int j = 0; j < 4; j++) {
                due("made(0, " + row + ", " + j + ") of an untouched buffer", desk.made(0, row, j), 0);
            }
            due("the tag of a row of zeros is its mask", desk.made(0, row, 4), mask(0, 0, 0, row));
        }
        AuditDesk other = new AuditDesk();
        thrown("an object has nothing of another one: place(0, 0)", INDEX, () -> other.place(0, 0) ? 1 : 0);
    }

    private static void key() {
        long[][] keys = {{0, 0}, {1, 2}, {-1, Long.MAX_VALUE}, {Long.MIN_VALUE, Long.MIN_VALUE}, {5, -5}};
        for (long[] k : keys) {
            AuditDesk desk = new AuditDesk();
            desk.key(77, 78);
            desk.key(k[0], k[1]);
            for (int i = 0; i < 64; i++) {
                desk.word(i, bufferWord(i));
            }
            for (int f = 0; f < 3; f++) {
                desk.file(64);
                thrown("key(9, 9) with a file", STATE, () -> {
                    desk.key(9, 9);
                    return 0;
                });
                for (int row = 0; row < 24; row++) {
                    dueTag(desk, k[0], k[1], f, row);
                }
            }
        }
    }

    private static void word() {
        AuditDesk desk = new AuditDesk();
        due("word(0, 0)", desk.word(0, 0), true);
        due("word(0, P - 1)", desk.word(0, P - 1), true);
        due("word(63, 5)", desk.word(63, 5), true);
        due("word(63, 6)", desk.word(63, 6), true);
        for (int i : new int[] {-1, 64, Integer.MAX_VALUE, Integer.MIN_VALUE}) {
            due("word(" + i + ", 1)", desk.word(i, 1), false);
        }
        for (int w : NO_FIELD_NUMBERS) {
            due("word(0, " + w + ")", desk.word(0, w), false);
        }
        desk.file(64);
        due("made(0, 0, 0)", desk.made(0, 0, 0), P - 1);
        due("made(0, 21, 3)", desk.made(0, 21, 3), 6);
        desk.word(0, 3);
        due("made(0, 0, 0), the file having the buffer as it was", desk.made(0, 0, 0), P - 1);
        desk.file(1);
        due("made(1, 0, 0)", desk.made(1, 0, 0), 3);
    }

    private static void file() {
        for (int n = 1; n <= 64; n++) {
            AuditDesk desk = deskWithFile(n);
            int rows = 6 * ((n + 15) / 16);
            due("score(-1, 0)", desk.score(-1, 0), n);
            due("score(-1, 1)", desk.score(-1, 1), rows);
            for (int i = 0; i < rows / 6 * 16; i++) {
                due("word " + i + " of a file of " + n, desk.made(0, i / 16 * 6 + i % 16 / 4, i % 4),
                        i < n ? bufferWord(i) : 0);
            }
            for (int row = 0; row < rows; row++) {
                dueTag(desk, 11, 22, 0, row);
                if (row % 6 >= 4) {
                    codedRow(desk, row);
                }
            }
        }
    }

    /** 120 times the coded word is a sum without any division: 120 is a multiple of 1 .. 5. */
    private static void codedRow(AuditDesk desk, int row) {
        for (int j = 0; j < 4; j++) {
            long sum = 0;
            for (int r = 0; r < 4; r++) {
                sum = (sum + 120L / (row % 6 - r) * desk.made(0, row / 6 * 6 + r, j)) % P;
            }
            due("120 * made(0, " + row + ", " + j + ")", 120L * desk.made(0, row, j) % P, sum);
        }
    }

    private static void fileEdges() {
        AuditDesk desk = new AuditDesk();
        for (int number = 0; number < 3; number++) {
            for (int n : new int[] {0, -1, 65, Integer.MAX_VALUE, Integer.MIN_VALUE}) {
                thrown("file(" + n + ")", ARGUMENT, () -> desk.file(n));
            }
            due("file(1)", desk.file(1), number);
        }
        thrown("file(1) with 3 files", STATE, () -> desk.file(1));
        thrown("file(64) with 3 files", STATE, () -> desk.file(64));
        thrown("file(0) with 3 files", ARGUMENT, () -> desk.file(0));
        due("score(-3, 0)", desk.score(-3, 0), 1);
        due("score(-4, 0)", desk.score(-4, 0), -1);
    }

    private static void place() {
        AuditDesk desk = deskWithFile(40);
        for (int keeper = 0; keeper < 4; keeper++) {
            due("place(0, " + keeper + ")", desk.place(0, keeper), true);
        }
        dueAsMade(desk, 3, 0, 18);
        desk.lose(3, 0, 2);
        desk.change(3, 0, 5, 1, 1);
        due("place(0, 3) again", desk.place(0, 3), false);
        due("kept(3, 0, 2, 5), as it was", desk.kept(3, 0, 2, 5), 1);
        due("locate(0, 3)", desk.locate(0, 3), 2);
        due("the other keepers have rows of their own", desk.locate(0, 2), 0);
        due("the file is as it was made", desk.made(0, 2, 0), bufferWord(8));
        for (int file : NO_FILES) {
            thrown("place(" + file + ", 0)", INDEX, () -> desk.place(file, 0) ? 1 : 0);
        }
        for (int keeper : NO_KEEPERS) {
            thrown("place(0, " + keeper + ")", INDEX, () -> desk.place(0, keeper) ? 1 : 0);
        }
    }

    private static void lose() {
        AuditDesk desk = placedDesk(20, 1);
        due("lose(1, 0, 0)", desk.lose(1, 0, 0), true);
        due("lose(1, 0, 0) again", desk.lose(1, 0, 0), false);
        due("lose(1, 0, 11)", desk.lose(1, 0, 11), true);
        for (int j = 0; j < 5; j++) {
            due("kept(1, 0, 11, " + j + ")", desk.kept(1, 0, 11, j), 0);
        }
        due("kept(1, 0, 11, 5)", desk.kept(1, 0, 11, 5), 1);
        due("kept(1, 0, 10, 5)", desk.kept(1, 0, 10, 5), 0);
        due("kept(1, 0, 10, 0)", desk.kept(1, 0, 10, 0), desk.made(0, 10, 0));
        for (int row : new int[] {-1, 12, 23, 24, Integer.MAX_VALUE, Integer.MIN_VALUE}) {
            thrown("lose(1, 0, " + row + ")", ARGUMENT, () -> desk.lose(1, 0, row) ? 1 : 0);
        }
        for (int file : NO_FILES) {
            thrown("lose(1, " + file + ", 0)", ARGUMENT, () -> desk.lose(1, file, 0) ? 1 : 0);
        }
        for (int keeper : NO_KEEPERS) {
            thrown("lose(" + keeper + ", 0, 0)", ARGUMENT, () -> desk.lose(keeper, 0, 0) ? 1 : 0);
        }
        thrown("lose(0, 0, 0), the keeper having it not", ARGUMENT, () -> desk.lose(0, 0, 0) ? 1 : 0);
    }

    private static void change() {
        AuditDesk desk = placedDesk(20, 1, 2);
        for (int j = 0; j < 5; j++) {
            int number = j;
            long made = desk.made(0, 9, j);
            due("change(1, 0, 9, " + j + ", 7)", desk.change(1, 0, 9, j, 7), (made + 7) % P);
            due("change(1, 0, 9, " + j + ", P - 1)", desk.change(1, 0, 9, j, P - 1), (made + 6) % P);
            due("change(1, 0, 9, " + j + ", 0)", desk.change(1, 0, 9, j, 0), (made + 6) % P);
            due("kept(1, 0, 9, " + j + ")", desk.kept(1, 0, 9, j), (made + 6) % P);
            due("kept(2, 0, 9, " + j + ")", desk.kept(2, 0, 9, j), made);
            thrown("change(1, 0, 9, " + j + ", -1)", ARGUMENT, () -> desk.change(1, 0, 9, number, -1));
            thrown("change(1, 0, 9, " + j + ", P)", ARGUMENT, () -> desk.change(1, 0, 9, number, P));
        }
        for (int j : new int[] {-1, 5, 6, Integer.MAX_VALUE, Integer.MIN_VALUE}) {
            thrown("change(1, 0, 0, " + j + ", 1)", ARGUMENT, () -> desk.change(1, 0, 0, j, 1));
        }
        for (int row : new int[] {-1, 12, Integer.MIN_VALUE}) {
            thrown("change(1, 0, " + row + ", 0, 1)", ARGUMENT, () -> desk.change(1, 0, row, 0, 1));
        }
        for (int file : NO_FILES) {
            thrown("change(1, " + file + ", 0, 0, 1)", ARGUMENT, () -> desk.change(1, file, 0, 0, 1));
        }
        for (int keeper : NO_KEEPERS) {
            thrown("change(" + keeper + ", 0, 0, 0, 1)", ARGUMENT, () -> desk.change(keeper, 0, 0, 0, 1));
        }
        thrown("change(3, 0, 0, 0, 1), the keeper having it not", ARGUMENT, () -> desk.change(3, 0, 0, 0, 1));
        desk.lose(1, 0, 4);
        thrown("change(1, 0, 4, 0, 1) of a lost row", STATE, () -> desk.change(1, 0, 4, 0, 1));
        thrown("change(1, 0, 4, 5, 1) of a lost row", ARGUMENT, () -> desk.change(1, 0, 4, 5, 1));
        thrown("change(1, 0, 4, 0, -1) of a lost row", ARGUMENT, () -> desk.change(1, 0, 4, 0, -1));
        due("kept(1, 0, 4, 0)", desk.kept(1, 0, 4, 0), 0);
        desk.word(0, P - 1);
        desk.file(1);
        desk.place(1, 1);
        due("change(1, 1, 0, 0, 1) goes past P - 1", desk.change(1, 1, 0, 0, 1), 0);
    }

    private static void challenge() {
        for (int seed : new int[] {0, 1, 7, -1, 99, Integer.MAX_VALUE, Integer.MIN_VALUE, 123456789}) {
            for (int m : new int[] {1, 2, 11, 12}) {
                AuditDesk desk = placedDesk(20, 1);
                boolean[] seen = new boolean[12];
                int first = desk.challenge(0, 1, seed, m);
                int x = seed;
                for (int i = 0; i < m; i++) {
                    x = x * 1103515245 + 12345;
                    int row = (x >>> 16) % 12;
                    while (seen[row]) {
                        row = row == 11 ? 0 : row + 1;
                    }
                    seen[row] = true;
                    x = x * 1103515245 + 12345;
                    due("row " + i + " for the seed " + seed, desk.asked(0, i), row);
                    due("coefficient " + i + " for " + seed, desk.asked(1, i), 1 + (x >>> 1) % (P - 1));
                }
                due("challenge(0, 1, " + seed + ", " + m + ")", first, desk.asked(0, 0));
                due("asked(0, " + m + ")", desk.asked(0, m), -1);
            }
        }
        challengeEdges();
    }

    private static void challengeEdges() {
        AuditDesk desk = placedDesk(20, 1);
        desk.challenge(0, 1, 7, 3);
        int row = desk.asked(0, 2);
        int tag = desk.asked(2, 4);
        for (int m : new int[] {0, -1, 13, 24, Integer.MAX_VALUE, Integer.MIN_VALUE}) {
            thrown("challenge(0, 1, 8, " + m + ")", ARGUMENT, () -> desk.challenge(0, 1, 8, m));
        }
        for (int file : NO_FILES) {
            thrown("challenge(" + file + ", 1, 8, 1)", ARGUMENT, () -> desk.challenge(file, 1, 8, 1));
        }
        for (int keeper : NO_KEEPERS) {
            thrown("challenge(0, " + keeper + ", 8, 1)", ARGUMENT, () -> desk.challenge(0, keeper, 8, 1));
        }
        thrown("challenge(0, 0, 8, 1), the keeper having it not", ARGUMENT, () -> desk.challenge(0, 0, 8, 1));
        due("asked(0, 2) of the challenge before those refused", desk.asked(0, 2), row);
        due("asked(2, 4) of the challenge before those refused", desk.asked(2, 4), tag);
        desk.challenge(0, 1, 8, 2);
        due("asked(0, 2) of a shorter challenge in its place", desk.asked(0, 2), -1);
        desk.challenge(0, 1, 7, 3);
        due("asked(2, 4), the same challenge again", desk.asked(2, 4), tag);
        // The seed whose next but one state is -1: its coefficient is 1 + P mod (P - 1).
        int inverse = 1;
        for (int i = 0; i < 5; i++) {
            inverse *= 2 - 1103515245 * inverse;
        }
        int before = (-1 - 12345) * inverse;
        desk.challenge(0, 1, (before - 12345) * inverse, 1);
        due("the coefficient of x = -1", desk.asked(1, 0), 2);
    }

    private static void asked() {
        AuditDesk desk = placedDesk(40, 2);
        due("asked(2, 0) without a challenge", desk.asked(2, 0), -1);
        desk.lose(2, 0, 3);
        desk.change(2, 0, 4, 4, 5);
        desk.challenge(0, 2, 31, 18);
        for (int j = 0; j < 5; j++) {
            long sum = 0;
            for (int i = 0; i < 18; i++) {
                sum = (sum + (long) desk.asked(1, i) * desk.kept(2, 0, desk.asked(0, i), j)) % P;
            }
            due("asked(2, " + j + ")", desk.asked(2, j), sum);
        }
        for (int w = 0; w < 3; w++) {
            for (int i : new int[] {-1, w == 2 ? 5 : 18, 24, Integer.MAX_VALUE, Integer.MIN_VALUE}) {
                due("asked(" + w + ", " + i + ")", desk.asked(w, i), -1);
            }
        }
        for (int w : new int[] {-1, 3, Integer.MAX_VALUE, Integer.MIN_VALUE}) {
            due("asked(" + w + ", 0)", desk.asked(w, 0), -1);
        }
        int tag = desk.asked(2, 4);
        desk.lose(2, 0, 0);
        due("the answer stands as it was given", desk.asked(2, 4), tag);
    }

    private static void tamper() {
        AuditDesk desk = placedDesk(20, 0);
        due("tamper(0, 1) without a challenge", desk.tamper(0, 1), false);
        desk.challenge(0, 0, 5, 4);
        for (int i = 0; i < 5; i++) {
            long before = desk.asked(2, i);
            due("tamper(" + i + ", P - 1)", desk.tamper(i, P - 1), true);
            due("asked(2, " + i + ")", desk.asked(2, i), (before + P - 1) % P);
            due("tamper(" + i + ", 0)", desk.tamper(i, 0), true);
            due("tamper(" + i + ", 3)", desk.tamper(i, 3), true);
            due("asked(2, " + i + ")", desk.asked(2, i), (before + 2) % P);
            for (int d : NO_FIELD_NUMBERS) {
                due("tamper(" + i + ", " + d + ")", desk.tamper(i, d), false);
            }
            due("asked(2, " + i + ")", desk.asked(2, i), (before + 2) % P);
        }
        for (int i : new int[] {-1, 5, Integer.MAX_VALUE, Integer.MIN_VALUE}) {
            due("tamper(" + i + ", 1)", desk.tamper(i, 1), false);
        }
        due("the keeper's rows are as they were: locate(0, 0)", desk.locate(0, 0), 0);
    }

    private static void judge() {
        AuditDesk desk = placedDesk(64, 0, 3);
        thrown("judge() without a challenge", STATE, () -> desk.judge() ? 1 : 0);
        due("score(3, 1)", desk.score(3, 1), 0);
        for (int m = 1; m <= 24; m++) {
            desk.challenge(0, 3, 1000 * m, m);
            due("judge() of " + m + " rows", desk.judge(), true);
        }
        for (int i = 0; i < 5; i++) {
            desk.tamper(i, 1);
            due("judge() with number " + i + " tampered", desk.judge(), false);
            desk.tamper(i, P - 1);
            due("judge() with number " + i + " as it was", desk.judge(), true);
        }
        due("score(3, 0)", desk.score(3, 0), 29);
        due("score(3, 1)", desk.score(3, 1), 5);
        due("score(0, 0)", desk.score(0, 0), 0);
        desk.lose(0, 0, 17);
        desk.challenge(0, 0, 4, 24);
        due("judge() with a lost row", desk.judge(), false);
        desk.repair(0, 0);
        due("judge() of the answer given before the repair", desk.judge(), false);
        desk.challenge(0, 0, 4, 24);
        due("judge() of a new answer", desk.judge(), true);
        desk.change(0, 0, 17, 4, 1);
        due("judge() of an answer given before the change", desk.judge(), true);
        due("score(0, 0)", desk.score(0, 0), 2);
        due("score(0, 1)", desk.score(0, 1), 2);
        due("score(3, 0)", desk.score(3, 0), 29);
    }

    private static void locate() {
        AuditDesk desk = placedDesk(64, 2);
        due("locate(0, 2)", desk.locate(0, 2), 0);
        desk.lose(2, 0, 23);
        for (int j = 0; j < 5; j++) {
            desk.change(2, 0, 3 * j, j, 1);
        }
        due("locate(0, 2)", desk.locate(0, 2), 6);
        for (int j = 0; j < 5; j++) {
            due("found(" + j + ")", desk.found(j), 3 * j);
        }
        due("found(5)", desk.found(5), 23);
        desk.change(2, 0, 6, 2, P - 1);
        due("locate(0, 2), a row being as it was", desk.locate(0, 2), 5);
        due("locate does not mend: locate(0, 2)", desk.locate(0, 2), 5);
        for (int file : NO_FILES) {
            thrown("locate(" + file + ", 2)", ARGUMENT, () -> desk.locate(file, 2));
        }
        for (int keeper : NO_KEEPERS) {
            thrown("locate(0, " + keeper + ")", ARGUMENT, () -> desk.locate(0, keeper));
        }
        thrown("locate(0, 0), the keeper having it not", ARGUMENT, () -> desk.locate(0, 0));
        due("found(0) after what was refused", desk.found(0), 0);
        changedAlongTheTag();
    }

    /** A row is GOOD by its tag, not by what it was: a word and the tag that are changed together pass. */
    private static void changedAlongTheTag() {
        AuditDesk desk = placedDesk(16, 1);
        desk.change(1, 0, 2, 3, 1);
        desk.change(1, 0, 2, 4, (int) alpha(11, 22, 0, 3));
        due("locate(0, 1) with word and tag changed together", desk.locate(0, 1), 0);
        desk.challenge(0, 1, 1, 6);
        due("judge() with word and tag changed together", desk.judge(), true);
        AuditDesk weak = new AuditDesk();
        weak.file(16);
        weak.place(0, 0);
        weak.change(0, 0, 2, 0, 1);
        due("locate(0, 0), ALPHA 0 being 0 for the key 0, 0", weak.locate(0, 0), 0);
    }

    private static void found() {
        AuditDesk desk = placedDesk(20, 0, 1);
        due("found(0) before locate", desk.found(0), -1);
        for (int row = 11; row >= 0; row--) {
            desk.lose(0, 0, row);
        }
        desk.locate(0, 0);
        for (int k = 0; k < 12; k++) {
            due("found(" + k + ")", desk.found(k), k);
        }
        for (int k : new int[] {-1, 12, 24, Integer.MAX_VALUE, Integer.MIN_VALUE}) {
            due("found(" + k + ")", desk.found(k), -1);
        }
        desk.repair(0, 0);
        due("found(11) stays until locate", desk.found(11), 11);
        desk.locate(0, 1);
        due("found(0), nothing being found", desk.found(0), -1);
    }

    private static void repair() {
        AuditDesk desk = placedDesk(40, 1, 3);
        due("repair(0, 1) of good rows", desk.repair(0, 1), 0);
        for (int row : new int[] {0, 7, 12, 16}) {
            desk.lose(1, 0, row);
        }
        desk.change(1, 0, 17, 4, 9);
        due("repair(0, 1)", desk.repair(0, 1), 5);
        dueAsMade(desk, 1, 0, 18);
        due("repair(0, 0), the keeper having it not", desk.repair(0, 0), 18);
        dueAsMade(desk, 0, 0, 18);
        due("rota(0)", desk.rota(0), 0);
        due("score(1, 2)", desk.score(1, 2), 5);
        due("score(0, 2)", desk.score(0, 2), 18);
        desk.lose(1, 0, 3);
        due("repair(0, 1)", desk.repair(0, 1), 1);
        due("score(1, 2)", desk.score(1, 2), 6);
        for (int file : NO_FILES) {
            thrown("repair(" + file + ", 1)", INDEX, () -> desk.repair(file, 1));
        }
        for (int keeper : NO_KEEPERS) {
            thrown("repair(0, " + keeper + ")", INDEX, () -> desk.repair(0, keeper));
        }
        repairThatFails();
    }

    private static void repairThatFails() {
        AuditDesk desk = placedDesk(32, 2);
        desk.lose(2, 0, 0);
        for (int row : new int[] {6, 8, 11}) {
            desk.lose(2, 0, row);
        }
        thrown("repair(0, 2), the second group having three rows", STATE, () -> desk.repair(0, 2));
        thrown("repair(0, 1), the second group having three rows", STATE, () -> desk.repair(0, 1));
        thrown("repair(0, 4) that would fail", INDEX, () -> desk.repair(0, 4));
        due("kept(2, 0, 0, 5)", desk.kept(2, 0, 0, 5), 1);
        due("score(2, 2)", desk.score(2, 2), 0);
        due("rota(1)", desk.rota(1), 2);
        thrown("kept(1, 0, 0, 0)", ARGUMENT, () -> desk.kept(1, 0, 0, 0));
        AuditDesk nobody = deskWithFile(5);
        thrown("repair(0, 0), nobody having the file", STATE, () -> nobody.repair(0, 0));
    }

    /** With the key 0, 0 a change of word 0 of file 0 is not seen, so that the least good rows carry it on. */
    private static void repairOfUnseenChanges() {
        AuditDesk desk = new AuditDesk();
        desk.word(0, 10);
        desk.file(1);
        desk.place(0, 1);
        desk.place(0, 2);
        desk.change(1, 0, 0, 0, 4);
        due("repair(0, 2): rows 0, 4 and 5", desk.repair(0, 2), 3);
        due("kept(2, 0, 0, 0), of the least keeper", desk.kept(2, 0, 0, 0), 14);
        due("4 * kept(2, 0, 4, 0)", 4L * desk.kept(2, 0, 4, 0) % P, 14);
        due("5 * kept(2, 0, 5, 0)", 5L * desk.kept(2, 0, 5, 0) % P, 14);
        due("repair(0, 1): rows 4 and 5", desk.repair(0, 1), 2);
        due("fetch(0)", desk.fetch(0), 1);
        due("fetched(0)", desk.fetched(0), 14);
        due("made(0, 0, 0)", desk.made(0, 0, 0), 10);
        desk.place(0, 0);
        due("repair(0, 1), keeper 0 having it as it was made", desk.repair(0, 1), 3);
        due("kept(1, 0, 0, 0)", desk.kept(1, 0, 0, 0), 10);
        desk.change(0, 0, 4, 0, 1);
        due("repair(0, 1), the four least rows being as made", desk.repair(0, 1), 0);
        desk.change(0, 0, 1, 0, 3);
        due("repair(0, 3), a word behind the file's last one being 3", desk.repair(0, 3), 6);
        due("kept(3, 0, 1, 0)", desk.kept(3, 0, 1, 0), 3);
    }

    /** The key makes SECRET 9 and so the mask of row 1 be 0: as it was made, that row is what a LOST one counts as. */
    private static void repairOfARowOfZeros() {
        AuditDesk desk = new AuditDesk();
        desk.key(-9 * 0x9E3779B97F4A7C15L, 0);
        desk.file(1);
        desk.place(0, 0);
        for (int j = 0; j < 5; j++) {
            due("made(0, 1, " + j + ")", desk.made(0, 1, j), 0);
        }
        due("lose(0, 0, 1)", desk.lose(0, 0, 1), true);
        due("locate(0, 0)", desk.locate(0, 0), 1);
        due("repair(0, 0) of a lost row of zeros", desk.repair(0, 0), 1);
        due("kept(0, 0, 1, 5)", desk.kept(0, 0, 1, 5), 0);
        due("repair(0, 1), the keeper having it not", desk.repair(0, 1), 6);
    }

    private static void fetch() {
        AuditDesk desk = deskWithFile(33);
        thrown("fetch(0), nobody having the file", STATE, () -> desk.fetch(0));
        for (int file : NO_FILES) {
            thrown("fetch(" + file + ")", INDEX, () -> desk.fetch(file));
        }
        desk.place(0, 1);
        desk.place(0, 3);
        for (int row = 0; row < 9; row++) {
            desk.lose(1, 0, row);
            desk.change(3, 0, 17 - row, 2, 5);
        }
        due("fetch(0) of two halves", desk.fetch(0), 33);
        for (int i = 0; i < 33; i++) {
            due("fetched(" + i + ")", desk.fetched(i), bufferWord(i));
        }
        for (int row = 0; row < 3; row++) {
            desk.lose(3, 0, row);
        }
        thrown("fetch(0), the first group having three rows", STATE, () -> desk.fetch(0));
        due("fetched(32), as it was", desk.fetched(32), bufferWord(32));
    }

    private static void anyFourRowsGiveTheOthers() {
        for (int lostRows = 0; lostRows < 64; lostRows++) {
            AuditDesk desk = placedDesk(64, 2);
            for (int row = 0; row < 24; row++) {
                if ((lostRows >> row % 6 & 1) != 0) {
                    desk.lose(2, 0, row);
                }
            }
            int count = Integer.bitCount(lostRows);
            if (count > 2) {
                thrown("fetch(0) of " + (6 - count) + " rows a group", STATE, () -> desk.fetch(0));
                continue;
            }
            due("fetch(0)", desk.fetch(0), 64);
            for (int i = 0; i < 64; i++) {
                due("fetched(" + i + ") without the rows " + Integer.toBinaryString(lostRows),
                        desk.fetched(i), bufferWord(i));
            }
            due("repair(0, 2)", desk.repair(0, 2), 4 * count);
            dueAsMade(desk, 2, 0, 24);
        }
    }

    private static void fetched() {
        AuditDesk desk = placedDesk(64, 0);
        desk.file(3);
        desk.place(1, 1);
        due("fetched(0) before fetch", desk.fetched(0), -1);
        desk.fetch(0);
        due("fetched(63)", desk.fetched(63), bufferWord(63));
        for (int i : new int[] {-1, 64, Integer.MAX_VALUE, Integer.MIN_VALUE}) {
            due("fetched(" + i + ")", desk.fetched(i), -1);
        }
        desk.lose(0, 0, 0);
        desk.word(63, 1);
        due("fetched(63) stays until fetch", desk.fetched(63), bufferWord(63));
        desk.fetch(1);
        due("fetched(2)", desk.fetched(2), bufferWord(2));
        due("fetched(3) of a file of three words", desk.fetched(3), -1);
    }

    private static void made() {
        AuditDesk desk = placedDesk(17, 0);
        due("made(0, 6, 0)", desk.made(0, 6, 0), bufferWord(16));
        due("made(0, 6, 1)", desk.made(0, 6, 1), 0);
        due("4 * made(0, 10, 0)", 4L * desk.made(0, 10, 0) % P, bufferWord(16));
        due("5 * made(0, 11, 0)", 5L * desk.made(0, 11, 0) % P, bufferWord(16));
        due("made(0, 9, 4)", desk.made(0, 9, 4), mask(11, 22, 0, 9));
        desk.change(0, 0, 6, 0, 1);
        desk.lose(0, 0, 9);
        due("made(0, 6, 0), whatever a keeper does", desk.made(0, 6, 0), bufferWord(16));
        due("made(0, 9, 4), whatever a keeper does", desk.made(0, 9, 4), mask(11, 22, 0, 9));
        for (int file : NO_FILES) {
            thrown("made(" + file + ", 0, 0)", INDEX, () -> desk.made(file, 0, 0));
        }
        for (int row : new int[] {-1, 12, 24, Integer.MAX_VALUE, Integer.MIN_VALUE}) {
            thrown("made(0, " + row + ", 0)", INDEX, () -> desk.made(0, row, 0));
        }
        for (int j : new int[] {-1, 5, 6, Integer.MAX_VALUE, Integer.MIN_VALUE}) {
            thrown("made(0, 0, " + j + ")", INDEX, () -> desk.made(0, 0, j));
        }
    }

    private static void kept() {
        AuditDesk desk = placedDesk(17, 2);
        dueAsMade(desk, 2, 0, 12);
        desk.lose(2, 0, 1);
        due("kept(2, 0, 1, 4)", desk.kept(2, 0, 1, 4), 0);
        due("kept(2, 0, 1, 5)", desk.kept(2, 0, 1, 5), 1);
        desk.repair(0, 2);
        dueAsMade(desk, 2, 0, 12);
        for (int file : NO_FILES) {
            thrown("kept(2, " + file + ", 0, 0)", ARGUMENT, () -> desk.kept(2, file, 0, 0));
        }
        for (int keeper : NO_KEEPERS) {
            thrown("kept(" + keeper + ", 0, 0, 0)", ARGUMENT, () -> desk.kept(keeper, 0, 0, 0));
        }
        thrown("kept(0, 0, 0, 5), the keeper having it not", ARGUMENT, () -> desk.kept(0, 0, 0, 5));
        for (int row : new int[] {-1, 12, 24, Integer.MAX_VALUE, Integer.MIN_VALUE}) {
            thrown("kept(2, 0, " + row + ", 5)", ARGUMENT, () -> desk.kept(2, 0, row, 5));
        }
        for (int j : new int[] {-1, 6, Integer.MAX_VALUE, Integer.MIN_VALUE}) {
            thrown("kept(2, 0, 0, " + j + ")", ARGUMENT, () -> desk.kept(2, 0, 0, j));
        }
    }

    private static void rota() {
        AuditDesk desk = deskWithFile(5);
        desk.file(6);
        desk.file(7);
        due("rota(0), nobody having a file", desk.rota(0), -1);
        desk.place(2, 0);
        desk.place(0, 3);
        desk.place(2, 2);
        desk.place(0, 1);
        desk.place(1, 3);
        int[] order = {1, 3, 11, 16, 18};
        for (int t = 0; t < 23; t++) {
            due("rota(" + t + ")", desk.rota(t), order[t % 5]);
        }
        due("rota(the greatest)", desk.rota(Integer.MAX_VALUE), order[Integer.MAX_VALUE % 5]);
        due("rota(-1)", desk.rota(-1), -1);
        due("rota(the least)", desk.rota(Integer.MIN_VALUE), -1);
        desk.repair(0, 0);
        due("rota(0), keeper 0 having file 0 by repair", desk.rota(0), 0);
        due("rota(1)", desk.rota(1), 1);
    }

    private static void score() {
        AuditDesk desk = placedDesk(17, 0, 1);
        desk.file(64);
        due("score(-1, 0)", desk.score(-1, 0), 17);
        due("score(-1, 1)", desk.score(-1, 1), 12);
        due("score(-2, 0)", desk.score(-2, 0), 64);
        due("score(-2, 1)", desk.score(-2, 1), 24);
        due("score(-3, 0), there being no file 2", desk.score(-3, 0), -1);
        due("score(-1, 2)", desk.score(-1, 2), -1);
        due("score(-1, -1)", desk.score(-1, -1), -1);
        desk.place(1, 1);
        desk.challenge(0, 1, 1, 1);
        desk.judge();
        desk.challenge(1, 1, 1, 1);
        desk.judge();
        desk.judge();
        desk.tamper(4, 1);
        desk.judge();
        due("score(1, 0), of both files", desk.score(1, 0), 3);
        due("score(1, 1)", desk.score(1, 1), 1);
        desk.lose(1, 0, 0);
        desk.lose(1, 0, 1);
        due("score(1, 2) before a repair", desk.score(1, 2), 0);
        desk.repair(0, 1);
        due("score(1, 2)", desk.score(1, 2), 2);
        due("score(0, 2)", desk.score(0, 2), 0);
        desk.repair(1, 0);
        due("score(0, 2)", desk.score(0, 2), 24);
        for (int w : new int[] {-1, 3, Integer.MAX_VALUE, Integer.MIN_VALUE}) {
            due("score(1, " + w + ")", desk.score(1, w), -1);
        }
        for (int keeper : new int[] {4, 5, -3, -4, -5, Integer.MAX_VALUE, Integer.MIN_VALUE}) {
            due("score(" + keeper + ", 0)", desk.score(keeper, 0), -1);
        }
    }
}
