/** The boundary cases that the promises name, sentence by sentence: each has a test of its own. */
public final class BoundariesTest extends Checks {

    private static final int[] NO_ROWS_OF_12 = {-1, 12, 13, 23, 24, MAX, MIN};
    private static final int[] NO_NUMBERS_OF_A_ROW = {-1, 5, 6, MAX, MIN};

    public static void main(String[] args) {
        promises1To4();
        promises5To7();
        promises8To11();
        promises12To16();
        promises17To20();
        finish("the boundaries of the promises hold");
    }

    private static void promises1To4() {
        theBufferAndTheKeyAreZero();
        thereAreNoFiles();
        keyWithAFile();
        noSuchWord();
        noNumberOfTheField();
        theLastWordOfTheBuffer();
        fileOfTooFewOrTooManyWords();
        aFourthFile();
        bothFaultsOfFile();
    }

    private static void promises5To7() {
        placeAgain();
        placeWithoutFileOrKeeper();
        loseAgain();
        loseOfNoSuchKeeper();
        loseOfNoSuchFile();
        loseOfNoSuchRow();
        changeGoesRound();
        changeOfTheTag();
        changeOfNoSuchKeeper();
        changeOfNoSuchFile();
        changeOfNoSuchRow();
        changeOfNoSuchNumber();
        changeByNoNumberOfTheField();
        changeOfALostRow();
        bothFaultsOfChange();
    }

    private static void promises8To11() {
        challengeInPlaceOfAnother();
        challengeOfNoSuchFile();
        challengeOfTooFewOrTooManyRows();
        askedOutOfRange();
        askedOfNoSuchKind();
        askedWithoutAChallenge();
        tamperGoesRound();
        tamperWithoutAChallenge();
        tamperWithNoSuchNumber();
        tamperByNoNumberOfTheField();
        judgeAsItIsNow();
        judgeCountsForTheKeeper();
        judgeWithoutAChallenge();
    }

    private static void promises12To16() {
        locateNoneAndAll();
        locateOfNoSuchFile();
        foundByRisingNumbers();
        foundOutOfRange();
        repairOfNone();
        repairOfAll();
        repairOfSome();
        repairWithoutFileOrKeeper();
        repairThatFails();
        bothFaultsOfRepair();
        fetchHowMany();
        fetchWithoutAFile();
        fetchThatFails();
        fetchedOutOfRange();
        fetchedLast();
    }

    private static void promises17To20() {
        madeTheTag();
        madeOfNoneSuch();
        keptOfALostRow();
        keptOfNoSuchFile();
        keptOfNoSuchRow();
        keptOfNoSuchNumber();
        rotaByFilesAndThenByKeepers();
        rotaGoesRound();
        rotaWithoutAny();
        rotaBelowZero();
        scoreOfAKeeper();
        scoreOfAFile();
        scoreOfNoneSuch();
        scoreOfNoSuchKind();
    }

    // ---- promises 1 to 4: a new object, key, word, file

    private static void theBufferAndTheKeyAreZero() {
        about = "promise 1: The buffer and the key are 0";
        AuditDesk desk = new AuditDesk();
        desk.file(64);
        for (int row = 0; row < 24; row++) {
            for (int j = 0; j < 4; j++) {
                due("made(0, " + row + ", " + j + ")", desk.made(0, row, j), 0);
            }
            due("made(0, " + row + ", 4)", desk.made(0, row, 4), secret(0, 0, 8 + row));
        }
    }

    private static void thereAreNoFiles() {
        about = "promise 1: there are no files";
        AuditDesk desk = new AuditDesk();
        for (int file = 0; file < 3; file++) {
            int number = file;
            due("score(" + (-1 - file) + ", 0)", desk.score(-1 - file, 0), -1);
            thrown("made(" + file + ", 0, 0)", INDEX, () -> desk.made(number, 0, 0));
            thrown("fetch(" + file + ")", INDEX, () -> desk.fetch(number));
            thrown("place(" + file + ", 0)", INDEX, () -> desk.place(number, 0) ? 1 : 0);
            thrown("repair(" + file + ", 0)", INDEX, () -> desk.repair(number, 0));
            for (int keeper = 0; keeper < 4; keeper++) {
                int who = keeper;
                thrown("kept(" + keeper + ", " + file + ", 0, 5)", ARGUMENT, () -> desk.kept(who, number, 0, 5));
                thrown("locate(" + file + ", " + keeper + ")", ARGUMENT, () -> desk.locate(number, who));
            }
        }
        due("rota(0)", desk.rota(0), -1);
        due("found(0)", desk.found(0), -1);
        due("fetched(0)", desk.fetched(0), -1);
        due("file(1)", desk.file(1), 0);
    }

    private static void keyWithAFile() {
        about = "promise 2: IllegalStateException if there is a file";
        AuditDesk desk = new AuditDesk();
        desk.key(1, 2);
        thrown("file(0)", ARGUMENT, () -> desk.file(0));
        desk.key(3, 4);
        desk.key(Long.MIN_VALUE, Long.MAX_VALUE);
        for (int file = 0; file < 3; file++) {
            desk.file(1);
            thrown("key(5, 6)", STATE, () -> {
                desk.key(5, 6);
                return 0;
            });
            thrown("key(0, 0)", STATE, () -> {
                desk.key(0, 0);
                return 0;
            });
            thrown("key() of the same key", STATE, () -> {
                desk.key(Long.MIN_VALUE, Long.MAX_VALUE);
                return 0;
            });
            due("made(" + file + ", 0, 4)", desk.made(file, 0, 4),
                    mask(Long.MIN_VALUE, Long.MAX_VALUE, file, 0));
        }
    }

    private static void noSuchWord() {
        about = "promise 3: false if there is no such word";
        AuditDesk desk = new AuditDesk();
        for (int i : new int[] {-1, -64, 64, 65, 128, MAX, MIN}) {
            due("word(" + i + ", 1)", desk.word(i, 1), false);
            due("word(" + i + ", 0)", desk.word(i, 0), false);
        }
    }

    private static void noNumberOfTheField() {
        about = "promise 3: false if w is no number of the field";
        AuditDesk desk = new AuditDesk();
        for (int i : new int[] {0, 63}) {
            due("word(" + i + ", 7)", desk.word(i, 7), true);
            for (int w : NO_FIELD_NUMBERS) {
                due("word(" + i + ", " + w + ")", desk.word(i, w), false);
            }
        }
        desk.file(64);
        due("made(0, 0, 0), as it was", desk.made(0, 0, 0), 7);
        due("made(0, 21, 3), as it was", desk.made(0, 21, 3), 7);
    }

    private static void theLastWordOfTheBuffer() {
        about = "promise 3: Word i of the buffer becomes w: true";
        AuditDesk desk = new AuditDesk();
        due("word(0, P - 1)", desk.word(0, P - 1), true);
        due("word(63, P - 1)", desk.word(63, P - 1), true);
        due("word(63, 0)", desk.word(63, 0), true);
        due("word(62, 0)", desk.word(62, 0), true);
        desk.file(64);
        due("made(0, 0, 0)", desk.made(0, 0, 0), P - 1);
        due("made(0, 21, 3)", desk.made(0, 21, 3), 0);
        due("word(63, 4)", desk.word(63, 4), true);
        desk.file(64);
        due("made(0, 21, 3)", desk.made(0, 21, 3), 0);
        due("made(1, 21, 3)", desk.made(1, 21, 3), 4);
    }

    private static void fileOfTooFewOrTooManyWords() {
        about = "promise 4: IllegalArgumentException if n is not 1 .. 64";
        AuditDesk desk = new AuditDesk();
        for (int n : new int[] {0, -1, -64, 65, 66, MAX, MIN}) {
            thrown("file(" + n + ")", ARGUMENT, () -> desk.file(n));
        }
        due("file(1)", desk.file(1), 0);
        due("file(64)", desk.file(64), 1);
        due("score(-1, 0)", desk.score(-1, 0), 1);
        due("score(-2, 0)", desk.score(-2, 0), 64);
    }

    private static void aFourthFile() {
        about = "promise 4: IllegalStateException if there are 3";
        AuditDesk desk = new AuditDesk();
        for (int file = 0; file < 3; file++) {
            due("file(" + (10 + file) + ")", desk.file(10 + file), file);
        }
        for (int n : new int[] {1, 30, 64}) {
            thrown("file(" + n + ")", STATE, () -> desk.file(n));
        }
        for (int file = 0; file < 3; file++) {
            due("score(" + (-1 - file) + ", 0)", desk.score(-1 - file, 0), 10 + file);
        }
        due("score(-4, 0)", desk.score(-4, 0), -1);
    }

    private static void bothFaultsOfFile() {
        about = "promise 4: n is not 1 .. 64, and there are 3: what is named first is thrown";
        AuditDesk desk = new AuditDesk();
        for (int file = 0; file < 3; file++) {
            desk.file(1);
        }
        thrown("file(0)", ARGUMENT, () -> desk.file(0));
        thrown("file(65)", ARGUMENT, () -> desk.file(65));
    }

    // ---- promises 5 to 7: place, lose, change

    private static void placeAgain() {
        about = "promise 5: true; false if it had it";
        AuditDesk desk = deskWithFile(20);
        due("place(0, 1)", desk.place(0, 1), true);
        due("place(0, 1) again", desk.place(0, 1), false);
        for (int row = 0; row < 12; row++) {
            desk.lose(1, 0, row);
        }
        due("place(0, 1), all rows being lost", desk.place(0, 1), false);
        due("kept(1, 0, 0, 5)", desk.kept(1, 0, 0, 5), 1);
        due("place(0, 0)", desk.place(0, 0), true);
        due("repair(0, 3)", desk.repair(0, 3), 12);
        due("place(0, 3), it having it by a repair", desk.place(0, 3), false);
        due("place(0, 2)", desk.place(0, 2), true);
        dueAsMade(desk, 2, 0, 12);
    }

    private static void placeWithoutFileOrKeeper() {
        about = "promise 5: IndexOutOfBoundsException if there is no such file or keeper";
        AuditDesk desk = placedDesk(20, 1);
        for (int file : NO_FILES) {
            thrown("place(" + file + ", 0)", INDEX, () -> desk.place(file, 0) ? 1 : 0);
            thrown("place(" + file + ", 1)", INDEX, () -> desk.place(file, 1) ? 1 : 0);
            thrown("place(" + file + ", 4)", INDEX, () -> desk.place(file, 4) ? 1 : 0);
        }
        for (int keeper : NO_KEEPERS) {
            thrown("place(0, " + keeper + ")", INDEX, () -> desk.place(0, keeper) ? 1 : 0);
        }
        due("place(0, 0)", desk.place(0, 0), true);
        due("place(0, 3)", desk.place(0, 3), true);
    }

    private static void loseAgain() {
        about = "promise 6: true; false if it was";
        AuditDesk desk = placedDesk(20, 1, 2);
        for (int row : new int[] {0, 11}) {
            due("lose(1, 0, " + row + ")", desk.lose(1, 0, row), true);
            due("lose(1, 0, " + row + ") again", desk.lose(1, 0, row), false);
            due("kept(1, 0, " + row + ", 5)", desk.kept(1, 0, row, 5), 1);
            due("lose(2, 0, " + row + ")", desk.lose(2, 0, row), true);
        }
        desk.repair(0, 1);
        due("lose(1, 0, 11) after a repair", desk.lose(1, 0, 11), true);
        desk.change(1, 0, 10, 0, 1);
        due("lose(1, 0, 10) of a changed row", desk.lose(1, 0, 10), true);
    }

    private static void loseOfNoSuchKeeper() {
        about = "promise 6: IllegalArgumentException if there is no such keeper";
        AuditDesk desk = placedDesk(20, 0, 3);
        for (int keeper : NO_KEEPERS) {
            thrown("lose(" + keeper + ", 0, 0)", ARGUMENT, () -> desk.lose(keeper, 0, 0) ? 1 : 0);
        }
        due("lose(0, 0, 0)", desk.lose(0, 0, 0), true);
        due("lose(3, 0, 0)", desk.lose(3, 0, 0), true);
    }

    private static void loseOfNoSuchFile() {
        about = "promise 6: IllegalArgumentException if it has no such file";
        AuditDesk desk = placedDesk(20, 3);
        desk.file(64);
        desk.place(1, 2);
        for (int file : new int[] {-1, 1, 2, 3, MAX, MIN}) {
            thrown("lose(3, " + file + ", 0)", ARGUMENT, () -> desk.lose(3, file, 0) ? 1 : 0);
        }
        for (int keeper : new int[] {0, 1, 2}) {
            thrown("lose(" + keeper + ", 0, 0)", ARGUMENT, () -> desk.lose(keeper, 0, 0) ? 1 : 0);
        }
        due("lose(2, 1, 0)", desk.lose(2, 1, 0), true);
    }

    private static void loseOfNoSuchRow() {
        about = "promise 6: IllegalArgumentException if that has no such row";
        for (int n : new int[] {1, 16, 17, 32, 33, 48, 49, 64}) {
            AuditDesk desk = placedDesk(n, 1);
            int rows = rowsOf(n);
            for (int row : new int[] {-1, rows, rows + 1, 24, MAX, MIN}) {
                thrown("lose(1, 0, " + row + ") of " + rows, ARGUMENT, () -> desk.lose(1, 0, row) ? 1 : 0);
            }
            due("lose(1, 0, 0) of " + rows, desk.lose(1, 0, 0), true);
            due("lose(1, 0, last) of " + rows, desk.lose(1, 0, rows - 1), true);
        }
    }

    private static void changeGoesRound() {
        about = "promise 7: To word j d is added: what it is then";
        AuditDesk desk = new AuditDesk();
        desk.word(0, P - 1);
        desk.word(3, 1);
        desk.file(4);
        desk.place(0, 0);
        due("change(0, 0, 0, 0, 0)", desk.change(0, 0, 0, 0, 0), P - 1);
        due("change(0, 0, 0, 0, 1)", desk.change(0, 0, 0, 0, 1), 0);
        due("change(0, 0, 0, 0, P - 1)", desk.change(0, 0, 0, 0, P - 1), P - 1);
        due("change(0, 0, 0, 0, P - 1)", desk.change(0, 0, 0, 0, P - 1), P - 2);
        due("change(0, 0, 0, 3, P - 2)", desk.change(0, 0, 0, 3, P - 2), P - 1);
        due("change(0, 0, 0, 3, 2)", desk.change(0, 0, 0, 3, 2), 1);
        due("kept(0, 0, 0, 0)", desk.kept(0, 0, 0, 0), P - 2);
        due("kept(0, 0, 0, 3)", desk.kept(0, 0, 0, 3), 1);
        due("kept(0, 0, 0, 1)", desk.kept(0, 0, 0, 1), 0);
        due("made(0, 0, 0)", desk.made(0, 0, 0), P - 1);
    }

    private static void changeOfTheTag() {
        about = "promise 7: or (j being 4) the tag";
        AuditDesk desk = placedDesk(20, 2);
        int tag = desk.made(0, 11, 4);
        due("change(2, 0, 11, 4, d) that makes it 0", desk.change(2, 0, 11, 4, P - tag), 0);
        due("kept(2, 0, 11, 4)", desk.kept(2, 0, 11, 4), 0);
        due("change(2, 0, 11, 4, P - 1)", desk.change(2, 0, 11, 4, P - 1), P - 1);
        due("change(2, 0, 11, 4, 1)", desk.change(2, 0, 11, 4, 1), 0);
        for (int j = 0; j < 4; j++) {
            due("kept(2, 0, 11, " + j + ")", desk.kept(2, 0, 11, j), desk.made(0, 11, j));
        }
    }

    private static void changeOfNoSuchKeeper() {
        about = "promise 7: IllegalArgumentException if there is no such keeper";
        AuditDesk desk = placedDesk(20, 0, 3);
        for (int keeper : NO_KEEPERS) {
            thrown("change(" + keeper + ", 0, 0, 0, 1)", ARGUMENT, () -> desk.change(keeper, 0, 0, 0, 1));
        }
        due("change(3, 0, 0, 0, 0)", desk.change(3, 0, 0, 0, 0), bufferWord(0));
    }

    private static void changeOfNoSuchFile() {
        about = "promise 7: IllegalArgumentException if it has no such file";
        AuditDesk desk = placedDesk(20, 3);
        desk.file(64);
        desk.place(1, 2);
        for (int file : NO_FILES) {
            thrown("change(3, " + file + ", 0, 0, 1)", ARGUMENT, () -> desk.change(3, file, 0, 0, 1));
        }
        for (int keeper : new int[] {0, 1, 2}) {
            thrown("change(" + keeper + ", 0, 0, 0, 1)", ARGUMENT, () -> desk.change(keeper, 0, 0, 0, 1));
        }
        due("change(2, 1, 0, 0, 0)", desk.change(2, 1, 0, 0, 0), bufferWord(0));
    }

    private static void changeOfNoSuchRow() {
        about = "promise 7: IllegalArgumentException if that has no such row";
        for (int n : new int[] {1, 17, 33, 64}) {
            AuditDesk desk = placedDesk(n, 1);
            int rows = rowsOf(n);
            for (int row : new int[] {-1, rows, rows + 1, 24, MAX, MIN}) {
                thrown("change(1, 0, " + row + ", 0, 1) of " + rows, ARGUMENT, () -> desk.change(1, 0, row, 0, 1));
            }
            due("change(1, 0, last, 0, 0) of " + rows, desk.change(1, 0, rows - 1, 0, 0),
                    desk.made(0, rows - 1, 0));
        }
    }

    private static void changeOfNoSuchNumber() {
        about = "promise 7: IllegalArgumentException if j is not 0 .. 4";
        AuditDesk desk = placedDesk(20, 1);
        for (int row : new int[] {0, 5, 11}) {
            for (int j : NO_NUMBERS_OF_A_ROW) {
                thrown("change(1, 0, " + row + ", " + j + ", 1)", ARGUMENT, () -> desk.change(1, 0, row, j, 1));
            }
        }
        dueAsMade(desk, 1, 0, 12);
    }

    private static void changeByNoNumberOfTheField() {
        about = "promise 7: IllegalArgumentException if d is no number of the field";
        AuditDesk desk = placedDesk(20, 1);
        for (int j = 0; j < 5; j++) {
            int number = j;
            for (int d : NO_FIELD_NUMBERS) {
                thrown("change(1, 0, 3, " + j + ", " + d + ")", ARGUMENT, () -> desk.change(1, 0, 3, number, d));
            }
            due("change(1, 0, 3, " + j + ", P - 1)", desk.change(1, 0, 3, j, P - 1),
                    ((long) desk.made(0, 3, j) + P - 1) % P);
        }
    }

    private static void changeOfALostRow() {
        about = "promise 7: IllegalStateException if the row is LOST";
        AuditDesk desk = placedDesk(20, 1, 2);
        desk.lose(1, 0, 7);
        for (int j = 0; j < 5; j++) {
            int number = j;
            for (int d : new int[] {0, 1, P - 1}) {
                thrown("change(1, 0, 7, " + j + ", " + d + ")", STATE, () -> desk.change(1, 0, 7, number, d));
            }
            due("kept(1, 0, 7, " + j + ")", desk.kept(1, 0, 7, j), 0);
            due("change(2, 0, 7, " + j + ", 0)", desk.change(2, 0, 7, j, 0), desk.made(0, 7, j));
        }
        desk.repair(0, 1);
        due("change(1, 0, 7, 0, 0) after a repair", desk.change(1, 0, 7, 0, 0), desk.made(0, 7, 0));
    }

    private static void bothFaultsOfChange() {
        about = "promise 7: j or d is wrong, and the row is LOST: what is named first is thrown";
        AuditDesk desk = placedDesk(20, 1);
        desk.lose(1, 0, 7);
        thrown("change(1, 0, 7, 5, 1)", ARGUMENT, () -> desk.change(1, 0, 7, 5, 1));
        thrown("change(1, 0, 7, -1, 1)", ARGUMENT, () -> desk.change(1, 0, 7, -1, 1));
        thrown("change(1, 0, 7, 0, -1)", ARGUMENT, () -> desk.change(1, 0, 7, 0, -1));
        thrown("change(1, 0, 7, 0, P)", ARGUMENT, () -> desk.change(1, 0, 7, 0, P));
    }

    // ---- promises 8 to 11: challenge, asked, tamper, judge

    private static void challengeInPlaceOfAnother() {
        about = "promise 8: A CHALLENGE of a keeper, in place of another one: its first row";
        AuditDesk desk = placedDesk(64, 1);
        desk.file(1);
        desk.place(1, 2);
        due("challenge(0, 1, 5, 24)", desk.challenge(0, 1, 5, 24), desk.asked(0, 0));
        desk.tamper(0, 1);
        due("asked(0, 23)", desk.asked(0, 23) >= 0, true);
        due("challenge(1, 2, 5, 2)", desk.challenge(1, 2, 5, 2), desk.asked(0, 0));
        for (int i = 0; i < 24; i++) {
            due("asked(0, " + i + ")", desk.asked(0, i) >= 0, i < 2);
            due("asked(1, " + i + ")", desk.asked(1, i) >= 1, i < 2);
        }
        due("judge() of the challenge in its place", desk.judge(), true);
        due("score(2, 0)", desk.score(2, 0), 1);
        due("score(1, 1)", desk.score(1, 1), 0);
    }

    private static void challengeOfNoSuchFile() {
        about = "promise 8: IllegalArgumentException if the keeper has no such file";
        AuditDesk desk = placedDesk(20, 3);
        desk.file(64);
        for (int file : NO_FILES) {
            thrown("challenge(" + file + ", 3, 1, 1)", ARGUMENT, () -> desk.challenge(file, 3, 1, 1));
        }
        for (int keeper : new int[] {0, 1, 2, -1, 4, MAX, MIN}) {
            thrown("challenge(0, " + keeper + ", 1, 1)", ARGUMENT, () -> desk.challenge(0, keeper, 1, 1));
        }
        due("asked(0, 0)", desk.asked(0, 0), -1);
    }

    private static void challengeOfTooFewOrTooManyRows() {
        about = "promise 8: IllegalArgumentException if m is not 1 .. its number of rows";
        for (int n : new int[] {1, 16, 17, 32, 33, 48, 49, 64}) {
            AuditDesk desk = placedDesk(n, 0);
            int rows = rowsOf(n);
            for (int m : new int[] {0, -1, rows + 1, rows + 6, MAX, MIN}) {
                thrown("challenge(0, 0, 9, " + m + ") of " + rows, ARGUMENT, () -> desk.challenge(0, 0, 9, m));
            }
            due("asked(0, 0)", desk.asked(0, 0), -1);
            for (int m : new int[] {1, rows}) {
                due("challenge(0, 0, 9, " + m + ") of " + rows, desk.challenge(0, 0, 9, m), desk.asked(0, 0));
                due("asked(0, " + (m - 1) + ")", desk.asked(0, m - 1) >= 0, true);
                due("asked(0, " + m + ")", desk.asked(0, m), -1);
            }
        }
    }

    private static void askedOutOfRange() {
        about = "promise 9: NONE if there is none such";
        AuditDesk desk = placedDesk(20, 0);
        for (int m : new int[] {1, 5, 12}) {
            desk.challenge(0, 0, 9, m);
            for (int i : new int[] {-1, m, m + 1, 24, MAX, MIN}) {
                due("asked(0, " + i + ") of " + m, desk.asked(0, i), -1);
                due("asked(1, " + i + ") of " + m, desk.asked(1, i), -1);
            }
            for (int i : new int[] {-1, 5, 6, MAX, MIN}) {
                due("asked(2, " + i + ") of " + m, desk.asked(2, i), -1);
            }
            due("asked(0, " + (m - 1) + ")", desk.asked(0, m - 1) >= 0, true);
            due("asked(1, " + (m - 1) + ")", desk.asked(1, m - 1) >= 1, true);
            due("asked(2, 4)", desk.asked(2, 4) >= 0, true);
        }
    }

    private static void askedOfNoSuchKind() {
        about = "promise 9: NONE if there is no such w";
        AuditDesk desk = placedDesk(20, 0);
        desk.challenge(0, 0, 9, 12);
        for (int w : new int[] {-1, 3, 4, MAX, MIN}) {
            for (int i = 0; i < 5; i++) {
                due("asked(" + w + ", " + i + ")", desk.asked(w, i), -1);
            }
        }
    }

    private static void askedWithoutAChallenge() {
        about = "promise 9: NONE if there is no challenge";
        AuditDesk desk = placedDesk(20, 0);
        for (int w = 0; w < 3; w++) {
            for (int i = 0; i < 5; i++) {
                due("asked(" + w + ", " + i + ")", desk.asked(w, i), -1);
            }
        }
    }

    private static void tamperGoesRound() {
        about = "promise 10: To number i of the ANSWER d is added: true";
        AuditDesk desk = placedDesk(20, 0);
        desk.challenge(0, 0, 9, 12);
        for (int i = 0; i < 5; i++) {
            int before = desk.asked(2, i);
            due("tamper(" + i + ", 0)", desk.tamper(i, 0), true);
            due("asked(2, " + i + ")", desk.asked(2, i), before);
            due("tamper(" + i + ", d) that makes it P - 1", desk.tamper(i, P - 1 - before), true);
            due("asked(2, " + i + ")", desk.asked(2, i), P - 1);
            due("tamper(" + i + ", 1)", desk.tamper(i, 1), true);
            due("asked(2, " + i + ")", desk.asked(2, i), 0);
            due("tamper(" + i + ", P - 1)", desk.tamper(i, P - 1), true);
            due("tamper(" + i + ", P - 1)", desk.tamper(i, P - 1), true);
            due("asked(2, " + i + ")", desk.asked(2, i), P - 2);
        }
        dueAsMade(desk, 0, 0, 12);
    }

    private static void tamperWithoutAChallenge() {
        about = "promise 10: false if there is no challenge";
        AuditDesk desk = placedDesk(20, 0);
        for (int i = 0; i < 5; i++) {
            due("tamper(" + i + ", 1)", desk.tamper(i, 1), false);
        }
        desk.challenge(0, 0, 9, 12);
        due("judge()", desk.judge(), true);
    }

    private static void tamperWithNoSuchNumber() {
        about = "promise 10: false if there is no such number";
        AuditDesk desk = placedDesk(20, 0);
        desk.challenge(0, 0, 9, 12);
        for (int i : NO_NUMBERS_OF_A_ROW) {
            due("tamper(" + i + ", 1)", desk.tamper(i, 1), false);
        }
        due("judge()", desk.judge(), true);
    }

    private static void tamperByNoNumberOfTheField() {
        about = "promise 10: false if d is no number of the field";
        AuditDesk desk = placedDesk(20, 0);
        desk.challenge(0, 0, 9, 12);
        for (int i = 0; i < 5; i++) {
            for (int d : NO_FIELD_NUMBERS) {
                due("tamper(" + i + ", " + d + ")", desk.tamper(i, d), false);
            }
        }
        due("judge()", desk.judge(), true);
    }

    private static void judgeAsItIsNow() {
        about = "promise 11: Whether the ANSWER of the latest challenge HOLDS (as it is now)";
        AuditDesk desk = placedDesk(20, 0);
        desk.challenge(0, 0, 9, 12);
        for (int i = 0; i < 5; i++) {
            due("judge()", desk.judge(), true);
            desk.tamper(i, 1);
            due("judge(), number " + i + " being 1 more", desk.judge(), false);
            desk.tamper(i, P - 1);
        }
        due("judge(), all being as they were", desk.judge(), true);
    }

    private static void judgeCountsForTheKeeper() {
        about = "promise 11: it counts for the keeper";
        AuditDesk desk = placedDesk(20, 0, 3);
        desk.challenge(0, 3, 9, 12);
        for (int times = 1; times <= 3; times++) {
            desk.judge();
            due("score(3, 0)", desk.score(3, 0), times);
        }
        desk.tamper(4, 1);
        desk.challenge(0, 0, 9, 1);
        desk.tamper(4, 1);
        desk.judge();
        due("score(0, 1)", desk.score(0, 1), 1);
        due("score(0, 0)", desk.score(0, 0), 0);
        due("score(3, 1)", desk.score(3, 1), 0);
    }

    private static void judgeWithoutAChallenge() {
        about = "promise 11: IllegalStateException if there is no challenge";
        AuditDesk desk = placedDesk(20, 0);
        thrown("judge()", STATE, () -> desk.judge() ? 1 : 0);
        thrown("challenge(0, 1, 1, 1)", ARGUMENT, () -> desk.challenge(0, 1, 1, 1));
        thrown("judge() after a challenge that was refused", STATE, () -> desk.judge() ? 1 : 0);
        for (int keeper = 0; keeper < 4; keeper++) {
            due("score(" + keeper + ", 0)", desk.score(keeper, 0), 0);
            due("score(" + keeper + ", 1)", desk.score(keeper, 1), 0);
        }
        thrown("judge() of a new object", STATE, () -> new AuditDesk().judge() ? 1 : 0);
    }

    // ---- promises 12 to 16: locate, found, repair, fetch, fetched

    private static void locateNoneAndAll() {
        about = "promise 12: The BAD rows of a keeper become what was FOUND: how many";
        for (int n : new int[] {1, 16, 17, 64}) {
            AuditDesk desk = placedDesk(n, 3);
            due("locate(0, 3) of good rows", desk.locate(0, 3), 0);
            due("found(0)", desk.found(0), -1);
            for (int row = 0; row < rowsOf(n); row++) {
                if (row % 2 == 0) {
                    desk.lose(3, 0, row);
                } else {
                    desk.change(3, 0, row, row % 5, P - 1);
                }
            }
            due("locate(0, 3) of bad rows", desk.locate(0, 3), rowsOf(n));
            for (int row = 0; row < rowsOf(n); row++) {
                due("found(" + row + ")", desk.found(row), row);
            }
            due("found(" + rowsOf(n) + ")", desk.found(rowsOf(n)), -1);
        }
    }

    private static void locateOfNoSuchFile() {
        about = "promise 12: IllegalArgumentException if the keeper has no such file";
        AuditDesk desk = placedDesk(20, 3);
        desk.file(64);
        for (int file : NO_FILES) {
            thrown("locate(" + file + ", 3)", ARGUMENT, () -> desk.locate(file, 3));
        }
        for (int keeper : new int[] {0, 1, 2, -1, 4, MAX, MIN}) {
            thrown("locate(0, " + keeper + ")", ARGUMENT, () -> desk.locate(0, keeper));
        }
    }

    private static void foundByRisingNumbers() {
        about = "promise 13: Row k of what was FOUND last, by rising numbers";
        AuditDesk desk = placedDesk(20, 0, 1);
        for (int row : new int[] {11, 0, 6, 5}) {
            desk.lose(0, 0, row);
        }
        desk.locate(0, 0);
        int[] rows = {0, 5, 6, 11};
        for (int k = 0; k < 4; k++) {
            due("found(" + k + ")", desk.found(k), rows[k]);
        }
        desk.lose(1, 0, 4);
        desk.locate(0, 1);
        due("found(0) of what was found last", desk.found(0), 4);
        due("found(1) of what was found last", desk.found(1), -1);
    }

    private static void foundOutOfRange() {
        about = "promise 13: NONE if there is none such";
        AuditDesk desk = placedDesk(20, 0);
        for (int k : new int[] {0, 1, -1, 24, MAX, MIN}) {
            due("found(" + k + ") before locate", desk.found(k), -1);
        }
        desk.locate(0, 0);
        for (int k : new int[] {0, 1, -1, 24, MAX, MIN}) {
            due("found(" + k + ") of none", desk.found(k), -1);
        }
        desk.lose(0, 0, 0);
        desk.lose(0, 0, 1);
        due("found(0) before the next locate", desk.found(0), -1);
        desk.locate(0, 0);
        due("found(1)", desk.found(1), 1);
        for (int k : new int[] {2, 3, -1, -2, 24, MAX, MIN}) {
            due("found(" + k + ") of two", desk.found(k), -1);
        }
    }

    private static void repairOfNone() {
        about = "promise 14: how many rows it had not, or that were other than they are now: none";
        AuditDesk desk = placedDesk(20, 0);
        due("repair(0, 0) of good rows", desk.repair(0, 0), 0);
        desk.change(0, 0, 3, 0, 5);
        desk.change(0, 0, 3, 0, P - 5);
        due("repair(0, 0) of rows as they were", desk.repair(0, 0), 0);
        due("score(0, 2)", desk.score(0, 2), 0);
    }

    private static void repairOfAll() {
        about = "promise 14: how many rows it had not: all";
        for (int n : new int[] {1, 16, 17, 32, 33, 48, 49, 64}) {
            AuditDesk desk = placedDesk(n, 3);
            due("repair(0, 0) of a keeper that had not the file", desk.repair(0, 0), rowsOf(n));
            dueAsMade(desk, 0, 0, rowsOf(n));
            for (int row = 0; row < rowsOf(n); row++) {
                desk.lose(3, 0, row);
            }
            due("repair(0, 3) of a keeper that lost all rows", desk.repair(0, 3), rowsOf(n));
            due("locate(0, 3)", desk.locate(0, 3), 0);
            due("score(3, 2)", desk.score(3, 2), rowsOf(n));
        }
    }

    private static void repairOfSome() {
        about = "promise 14: or that were other than they are now";
        AuditDesk desk = placedDesk(20, 2);
        for (int j = 0; j < 5; j++) {
            desk.change(2, 0, 11, j, 1);
            due("repair(0, 2), number " + j + " of a row being other", desk.repair(0, 2), 1);
            due("score(2, 2)", desk.score(2, 2), j + 1);
        }
        desk.change(2, 0, 0, 0, 1);
        desk.change(2, 0, 0, 4, 1);
        desk.lose(2, 0, 5);
        due("repair(0, 2), a row being other and one lost", desk.repair(0, 2), 2);
        dueAsMade(desk, 2, 0, 12);
    }

    private static void repairWithoutFileOrKeeper() {
        about = "promise 14: IndexOutOfBoundsException if there is no such file or keeper";
        AuditDesk desk = placedDesk(20, 2);
        for (int file : NO_FILES) {
            thrown("repair(" + file + ", 2)", INDEX, () -> desk.repair(file, 2));
            thrown("repair(" + file + ", 4)", INDEX, () -> desk.repair(file, 4));
        }
        for (int keeper : NO_KEEPERS) {
            thrown("repair(0, " + keeper + ")", INDEX, () -> desk.repair(0, keeper));
        }
    }

    private static void repairThatFails() {
        about = "promise 14: IllegalStateException if that FAILS";
        AuditDesk desk = placedDesk(32, 2);
        for (int row : new int[] {1, 6, 7, 11}) {
            desk.lose(2, 0, row);
        }
        for (int keeper = 0; keeper < 4; keeper++) {
            int who = keeper;
            thrown("repair(0, " + keeper + ")", STATE, () -> desk.repair(0, who));
            due("score(" + keeper + ", 2)", desk.score(keeper, 2), 0);
        }
        due("kept(2, 0, 1, 5), of a group that has four", desk.kept(2, 0, 1, 5), 1);
        thrown("kept(0, 0, 1, 5)", ARGUMENT, () -> desk.kept(0, 0, 1, 5));
    }

    private static void bothFaultsOfRepair() {
        about = "promise 14: there is no such keeper, and it would fail: what is named first is thrown";
        AuditDesk desk = deskWithFile(20);
        thrown("repair(0, 0)", STATE, () -> desk.repair(0, 0));
        thrown("repair(0, 4)", INDEX, () -> desk.repair(0, 4));
        thrown("repair(0, -1)", INDEX, () -> desk.repair(0, -1));
    }

    private static void fetchHowMany() {
        about = "promise 15: its words are FETCHED: how many";
        for (int n = 1; n <= 64; n++) {
            AuditDesk desk = placedDesk(n, n % 4);
            due("fetch(0)", desk.fetch(0), n);
            due("fetched(" + (n - 1) + ")", desk.fetched(n - 1), bufferWord(n - 1));
            due("fetched(" + n + ")", desk.fetched(n), -1);
        }
    }

    private static void fetchWithoutAFile() {
        about = "promise 15: IndexOutOfBoundsException if there is no such file";
        AuditDesk desk = placedDesk(20, 2);
        for (int file : NO_FILES) {
            thrown("fetch(" + file + ")", INDEX, () -> desk.fetch(file));
        }
        thrown("fetch(0) of a new object", INDEX, () -> new AuditDesk().fetch(0));
    }

    private static void fetchThatFails() {
        about = "promise 15: IllegalStateException if that FAILS";
        AuditDesk desk = deskWithFile(64);
        desk.file(3);
        desk.place(1, 0);
        thrown("fetch(0), nobody having it", STATE, () -> desk.fetch(0));
        due("fetch(1)", desk.fetch(1), 3);
        desk.place(0, 0);
        for (int row : new int[] {18, 22, 23}) {
            desk.lose(0, 0, row);
        }
        thrown("fetch(0), the last group having three", STATE, () -> desk.fetch(0));
        due("fetched(2), of the words fetched before", desk.fetched(2), bufferWord(2));
        due("fetched(3), of the words fetched before", desk.fetched(3), -1);
    }

    private static void fetchedOutOfRange() {
        about = "promise 16: NONE if there is none such";
        AuditDesk desk = placedDesk(64, 2);
        for (int i : new int[] {0, 63, -1, 64, MAX, MIN}) {
            due("fetched(" + i + ") before fetch", desk.fetched(i), -1);
        }
        desk.fetch(0);
        for (int i : new int[] {-1, -64, 64, 65, MAX, MIN}) {
            due("fetched(" + i + ")", desk.fetched(i), -1);
        }
        due("fetched(0)", desk.fetched(0), bufferWord(0));
        due("fetched(63)", desk.fetched(63), bufferWord(63));
    }

    private static void fetchedLast() {
        about = "promise 16: Word i of those FETCHED last";
        AuditDesk desk = placedDesk(64, 2);
        desk.word(0, 1);
        desk.file(2);
        desk.place(1, 2);
        desk.fetch(0);
        desk.fetch(1);
        due("fetched(0)", desk.fetched(0), 1);
        due("fetched(1)", desk.fetched(1), bufferWord(1));
        due("fetched(2), of a shorter file", desk.fetched(2), -1);
        due("fetched(63), of a shorter file", desk.fetched(63), -1);
        desk.repair(0, 0);
        due("fetched(0) after a repair of another file", desk.fetched(0), 1);
    }

    // ---- promises 17 to 20: made, kept, rota, score

    private static void madeTheTag() {
        about = "promise 17: as it was made: word j, or (j being 4) the tag";
        AuditDesk desk = placedDesk(20, 0);
        for (int row : new int[] {0, 5, 6, 11}) {
            dueTag(desk, 11, 22, 0, row);
        }
        for (int row = 0; row < 12; row++) {
            desk.lose(0, 0, row);
        }
        due("made(0, 0, 0), the keeper having lost it", desk.made(0, 0, 0), bufferWord(0));
        dueTag(desk, 11, 22, 0, 11);
    }

    private static void madeOfNoneSuch() {
        about = "promise 17: IndexOutOfBoundsException if there is none such";
        AuditDesk desk = deskWithFile(20);
        for (int file : NO_FILES) {
            thrown("made(" + file + ", 0, 0)", INDEX, () -> desk.made(file, 0, 0));
        }
        for (int row : NO_ROWS_OF_12) {
            thrown("made(0, " + row + ", 0)", INDEX, () -> desk.made(0, row, 0));
            thrown("made(0, " + row + ", 4)", INDEX, () -> desk.made(0, row, 4));
        }
        for (int j : NO_NUMBERS_OF_A_ROW) {
            thrown("made(0, 0, " + j + ")", INDEX, () -> desk.made(0, 0, j));
            thrown("made(0, 11, " + j + ")", INDEX, () -> desk.made(0, 11, j));
        }
        due("made(0, 11, 3)", desk.made(0, 11, 3) >= 0, true);
    }

    private static void keptOfALostRow() {
        about = "promise 18: 0 if the row is LOST; (j being 5) 1 if it is LOST, else 0";
        AuditDesk desk = placedDesk(20, 0);
        for (int row : new int[] {0, 11}) {
            due("kept(0, 0, " + row + ", 5)", desk.kept(0, 0, row, 5), 0);
            desk.change(0, 0, row, 1, 1);
            due("kept(0, 0, " + row + ", 5) of a changed row", desk.kept(0, 0, row, 5), 0);
            desk.lose(0, 0, row);
            for (int j = 0; j < 5; j++) {
                due("kept(0, 0, " + row + ", " + j + ")", desk.kept(0, 0, row, j), 0);
            }
            due("kept(0, 0, " + row + ", 5)", desk.kept(0, 0, row, 5), 1);
        }
        desk.repair(0, 0);
        dueAsMade(desk, 0, 0, 12);
    }

    private static void keptOfNoSuchFile() {
        about = "promise 18: IllegalArgumentException if the keeper has no such file";
        AuditDesk desk = placedDesk(20, 3);
        desk.file(64);
        for (int j : new int[] {0, 4, 5}) {
            for (int file : NO_FILES) {
                thrown("kept(3, " + file + ", 0, " + j + ")", ARGUMENT, () -> desk.kept(3, file, 0, j));
            }
            for (int keeper : new int[] {0, 1, 2, -1, 4, MAX, MIN}) {
                thrown("kept(" + keeper + ", 0, 0, " + j + ")", ARGUMENT, () -> desk.kept(keeper, 0, 0, j));
            }
        }
    }

    private static void keptOfNoSuchRow() {
        about = "promise 18: IllegalArgumentException if it has no such row";
        AuditDesk desk = placedDesk(20, 3);
        for (int row : NO_ROWS_OF_12) {
            for (int j = 0; j < 6; j++) {
                int number = j;
                thrown("kept(3, 0, " + row + ", " + j + ")", ARGUMENT, () -> desk.kept(3, 0, row, number));
            }
        }
    }

    private static void keptOfNoSuchNumber() {
        about = "promise 18: IllegalArgumentException if there is no such j";
        AuditDesk desk = placedDesk(20, 3);
        desk.lose(3, 0, 11);
        for (int j : new int[] {-1, 6, 7, MAX, MIN}) {
            thrown("kept(3, 0, 0, " + j + ")", ARGUMENT, () -> desk.kept(3, 0, 0, j));
            thrown("kept(3, 0, 11, " + j + ") of a lost row", ARGUMENT, () -> desk.kept(3, 0, 11, j));
        }
    }

    private static void rotaByFilesAndThenByKeepers() {
        about = "promise 19: of the files that keepers have, by files and then by keepers: 8 * file + keeper";
        AuditDesk desk = deskWithFile(1);
        desk.file(1);
        desk.file(1);
        desk.place(2, 3);
        due("rota(0)", desk.rota(0), 19);
        for (int keeper = 3; keeper >= 0; keeper--) {
            for (int file = 2; file >= 0; file--) {
                desk.place(file, keeper);
            }
        }
        for (int t = 0; t < 12; t++) {
            due("rota(" + t + ") of all", desk.rota(t), 8 * (t / 4) + t % 4);
        }
    }

    private static void rotaGoesRound() {
        about = "promise 19: that with the number t modulo how many they are";
        AuditDesk desk = placedDesk(1, 1);
        for (int t : new int[] {0, 1, 2, MAX - 1, MAX}) {
            due("rota(" + t + ") of one", desk.rota(t), 1);
        }
        desk.place(0, 3);
        desk.file(1);
        desk.place(1, 0);
        int[] order = {1, 3, 8};
        for (int t : new int[] {0, 1, 2, 3, 4, 5, 6, MAX - 2, MAX - 1, MAX}) {
            due("rota(" + t + ") of three", desk.rota(t), order[t % 3]);
        }
        for (int row = 0; row < 6; row++) {
            desk.lose(1, 0, row);
        }
        due("rota(0), all rows being lost", desk.rota(0), 1);
    }

    private static void rotaWithoutAny() {
        about = "promise 19: NONE if there are none";
        AuditDesk desk = new AuditDesk();
        for (int t : new int[] {0, 1, MAX}) {
            due("rota(" + t + ") without files", desk.rota(t), -1);
        }
        desk.file(1);
        for (int t : new int[] {0, 1, MAX}) {
            due("rota(" + t + "), nobody having the file", desk.rota(t), -1);
        }
        thrown("repair(0, 0)", STATE, () -> desk.repair(0, 0));
        due("rota(0) after a repair that failed", desk.rota(0), -1);
    }

    private static void rotaBelowZero() {
        about = "promise 19: NONE if t is below 0";
        AuditDesk desk = placedDesk(1, 0, 1, 2);
        for (int t : new int[] {-1, -2, -3, -4, MIN, MIN + 1}) {
            due("rota(" + t + ")", desk.rota(t), -1);
        }
        AuditDesk one = placedDesk(1, 3);
        due("rota(-1) of one", one.rota(-1), -1);
        due("rota(the least) of one", one.rota(MIN), -1);
        due("rota(-1) of a new object", new AuditDesk().rota(-1), -1);
    }

    private static void scoreOfAKeeper() {
        about = "promise 20: Of a keeper: how many of its answers held, did not, rows that repair() made again in all";
        AuditDesk desk = placedDesk(20, 0);
        for (int keeper = 0; keeper < 4; keeper++) {
            for (int w = 0; w < 3; w++) {
                due("score(" + keeper + ", " + w + ") at first", desk.score(keeper, w), 0);
            }
        }
        desk.repair(0, 3);
        due("score(3, 2)", desk.score(3, 2), 12);
        desk.place(0, 1);
        due("score(1, 2), place() being no repair", desk.score(1, 2), 0);
        desk.repair(0, 3);
        due("score(3, 2) after a repair of none", desk.score(3, 2), 12);
        desk.challenge(0, 3, 1, 12);
        due("score(3, 0), nothing being judged", desk.score(3, 0), 0);
        desk.judge();
        desk.tamper(0, 1);
        desk.judge();
        desk.judge();
        due("score(3, 0)", desk.score(3, 0), 1);
        due("score(3, 1)", desk.score(3, 1), 2);
    }

    private static void scoreOfAFile() {
        about = "promise 20: Of a file (keeper -1 - file): w = 0: its words, 1: its rows";
        AuditDesk desk = new AuditDesk();
        int[] sizes = {1, 17, 64};
        for (int file = 0; file < 3; file++) {
            due("score(" + (-1 - file) + ", 0) before it is made", desk.score(-1 - file, 0), -1);
            due("score(" + (-1 - file) + ", 1) before it is made", desk.score(-1 - file, 1), -1);
            desk.file(sizes[file]);
            due("score(" + (-1 - file) + ", 0)", desk.score(-1 - file, 0), sizes[file]);
            due("score(" + (-1 - file) + ", 1)", desk.score(-1 - file, 1), rowsOf(sizes[file]));
        }
    }

    private static void scoreOfNoneSuch() {
        about = "promise 20: NONE if there is none such";
        AuditDesk desk = deskWithFile(1);
        desk.file(2);
        for (int w = 0; w < 3; w++) {
            for (int keeper : new int[] {4, 5, -3, -4, -5, MAX, MIN, MIN + 1, MIN + 3}) {
                due("score(" + keeper + ", " + w + ")", desk.score(keeper, w), -1);
            }
        }
        desk.file(3);
        due("score(-3, 0)", desk.score(-3, 0), 3);
        due("score(-4, 0)", desk.score(-4, 0), -1);
    }

    private static void scoreOfNoSuchKind() {
        about = "promise 20: NONE if there is no such w";
        AuditDesk desk = placedDesk(1, 0);
        for (int w : new int[] {-1, 3, 4, MAX, MIN}) {
            for (int keeper = 0; keeper < 4; keeper++) {
                due("score(" + keeper + ", " + w + ")", desk.score(keeper, w), -1);
            }
            due("score(-1, " + w + ")", desk.score(-1, w), -1);
        }
        due("score(-1, 2)", desk.score(-1, 2), -1);
    }
}
