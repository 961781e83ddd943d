import java.util.ArrayList;
import java.util.List;
import java.util.TreeSet;
import java.util.function.Supplier;

/**
 * 'What throws or is refused changes nothing': in several states of a desk, each call that is refused there is made on
 * a desk of its own, and all that can be seen of it then is held against a desk on which the call was not made.
 */
public final class RefusalsTest extends Checks {

    private static final String FALSE = "0";
    private static final String NONE = "-1";

    private interface Call {
        long on(AuditDesk desk);
    }

    private static final class Refusal {

        final String text;
        final String due;
        final Call call;

        Refusal(String text, String due, Call call) {
            this.text = text;
            this.due = due;
            this.call = call;
        }
    }

    /** How a desk is brought there, and what of it decides which calls are refused. */
    private static final class State {

        String name;
        Supplier<AuditDesk> desk;
        int[] rows = {};
        boolean[][] had = {};
        boolean[] fails = {};
        int[][] lost = {};
        int asked;
        int found;
        int fetched;
    }

    /** A desk is good for 512 calls, so that each look at it is had with a desk of its own. */
    private static final class Look {

        final String name;
        final List<Call> calls = new ArrayList<>();

        Look(String name) {
            this.name = name;
        }
    }

    private static final List<Look> LOOKS = looks();
    private static final TreeSet<String> REFUSED = new TreeSet<>();

    public static void main(String[] args) {
        int count = 0;
        for (State state : new State[] {newDesk(), deskWithoutKeepers(), busyDesk(), fullDesk()}) {
            List<Refusal> refusals = refusalsIn(state);
            count += refusals.size();
            nothingChanges(state, refusals);
        }
        about = "the ways in which a call can be refused, of which 25 are named: " + REFUSED;
        due("how many were tested", REFUSED.size(), 25);
        finish("none of " + count + " refused calls changes anything");
    }

    private static void nothingChanges(State state, List<Refusal> refusals) {
        for (Look look : LOOKS) {
            List<String> before = seen(look, state.desk.get());
            for (Refusal refusal : refusals) {
                AuditDesk desk = state.desk.get();
                about = state.name + ": " + refusal.text;
                String got = answer(refusal.call, desk);
                if (!got.equals(refusal.due)) {
                    fault("answered " + got + ", due is " + refusal.due);
                }
                if (!seen(look, desk).equals(before)) {
                    fault("it changed " + look.name);
                }
                REFUSED.add(refusal.text.substring(0, refusal.text.indexOf('(')) + " " + refusal.due);
            }
        }
    }

    private static List<String> seen(Look look, AuditDesk desk) {
        List<String> answers = new ArrayList<>();
        for (Call call : look.calls) {
            answers.add(answer(call, desk));
        }
        return answers;
    }

    private static String answer(Call call, AuditDesk desk) {
        try {
            return Long.toString(call.on(desk));
        } catch (RuntimeException e) {
            return e.getClass().getSimpleName();
        }
    }

    // ---- what can be seen of a desk

    private static List<Look> looks() {
        List<Look> looks = new ArrayList<>();
        looks.add(challengeLook());
        looks.add(resultsLook());
        looks.add(locateLook());
        looks.add(repairLook());
        for (int file = 0; file < 3; file++) {
            looks.add(madeLook(file));
            looks.add(nextFileLook(file));
            for (int keeper = 0; keeper < 4; keeper++) {
                looks.add(keptLook(keeper, file));
            }
        }
        return looks;
    }

    private static Look challengeLook() {
        Look look = new Look("the challenge");
        for (int i = 0; i < 25; i++) {
            int number = i;
            look.calls.add(desk -> desk.asked(0, number));
            look.calls.add(desk -> desk.asked(1, number));
            look.calls.add(desk -> desk.asked(2, number));
        }
        scores(look);
        look.calls.add(desk -> desk.judge() ? 1 : 0);
        scores(look);
        return look;
    }

    private static void scores(Look look) {
        for (int keeper = -4; keeper < 4; keeper++) {
            int who = keeper;
            for (int w = 0; w < 3; w++) {
                int kind = w;
                look.calls.add(desk -> desk.score(who, kind));
            }
        }
    }

    private static Look resultsLook() {
        Look look = new Look("what was found or fetched, or the rota");
        for (int i = 0; i < 65; i++) {
            int number = i;
            look.calls.add(desk -> desk.found(number));
            look.calls.add(desk -> desk.fetched(number));
            look.calls.add(desk -> desk.rota(number));
        }
        return look;
    }

    private static Look locateLook() {
        Look look = new Look("which rows are good");
        for (int file = 0; file < 3; file++) {
            int number = file;
            for (int keeper = 0; keeper < 4; keeper++) {
                int who = keeper;
                look.calls.add(desk -> desk.locate(number, who));
                for (int k = 0; k < 20; k++) {
                    int place = k;
                    look.calls.add(desk -> desk.found(place));
                }
            }
        }
        return look;
    }

    private static Look repairLook() {
        Look look = new Look("what a repair or a challenge does");
        for (int file = 0; file < 3; file++) {
            int number = file;
            for (int keeper = 0; keeper < 4; keeper++) {
                int who = keeper;
                look.calls.add(desk -> desk.challenge(number, who, 7, 6));
                look.calls.add(desk -> desk.asked(2, 4));
                look.calls.add(desk -> desk.judge() ? 1 : 0);
                look.calls.add(desk -> desk.repair(number, who));
                look.calls.add(desk -> desk.place(number, who) ? 1 : 0);
            }
            look.calls.add(desk -> desk.fetch(number));
            for (int i = 0; i < 64; i++) {
                int word = i;
                look.calls.add(desk -> desk.fetched(word));
            }
        }
        scores(look);
        return look;
    }

    private static Look madeLook(int file) {
        Look look = new Look("file " + file);
        rowsAsMade(look, file);
        return look;
    }

    /** A next file shows the buffer and the key, if there may be one. */
    private static Look nextFileLook(int file) {
        Look look = new Look("the buffer, the key or the number of files");
        look.calls.add(desk -> desk.file(64));
        rowsAsMade(look, file);
        return look;
    }

    private static void rowsAsMade(Look look, int file) {
        for (int row = 0; row < 24; row++) {
            int line = row;
            for (int j = 0; j < 5; j++) {
                int number = j;
                look.calls.add(desk -> desk.made(file, line, number));
            }
        }
    }

    private static Look keptLook(int keeper, int file) {
        Look look = new Look("file " + file + " of keeper " + keeper);
        for (int row = 0; row < 24; row++) {
            int line = row;
            for (int j = 0; j < 6; j++) {
                int number = j;
                look.calls.add(desk -> desk.kept(keeper, file, line, number));
            }
        }
        return look;
    }

    // ---- the states

    private static State newDesk() {
        State state = new State();
        state.name = "a desk without files";
        state.desk = () -> {
            AuditDesk desk = new AuditDesk();
            desk.key(3, 4);
            for (int i = 0; i < 64; i += 7) {
                desk.word(i, i + 1);
            }
            return desk;
        };
        return state;
    }

    private static State deskWithoutKeepers() {
        State state = new State();
        state.name = "a desk with a file that nobody has";
        state.desk = () -> {
            AuditDesk desk = deskWithFile(20);
            desk.word(0, 8);
            return desk;
        };
        state.rows = new int[] {12};
        state.had = new boolean[][] {{false, false, false, false}};
        state.fails = new boolean[] {true};
        return state;
    }

    private static State busyDesk() {
        State state = new State();
        state.name = "a desk with two files";
        state.desk = () -> {
            AuditDesk desk = placedDesk(20, 1, 3);
            desk.word(0, 77);
            desk.file(5);
            desk.place(1, 1);
            desk.repair(1, 2);
            desk.lose(1, 0, 2);
            desk.lose(1, 0, 7);
            desk.lose(3, 0, 11);
            desk.change(3, 0, 4, 4, 9);
            desk.change(1, 0, 0, 0, 5);
            desk.challenge(0, 1, 77, 5);
            desk.tamper(2, 9);
            desk.judge();
            desk.challenge(0, 3, 5, 3);
            desk.judge();
            desk.tamper(1, 1);
            desk.locate(0, 1);
            desk.fetch(0);
            desk.word(63, 78);
            return desk;
        };
        state.rows = new int[] {12, 6};
        state.had = new boolean[][] {{false, true, false, true}, {false, true, true, false}};
        state.fails = new boolean[] {false, false};
        state.lost = new int[][] {{1, 0, 2}, {1, 0, 7}, {3, 0, 11}};
        state.asked = 3;
        state.found = 3;
        state.fetched = 20;
        return state;
    }

    /** File 1 fails by its last group alone; its first one could be made again. No two files have the same word 0. */
    private static State fullDesk() {
        State state = new State();
        state.name = "a desk with three files";
        state.desk = () -> {
            AuditDesk desk = placedDesk(64, 0, 1, 2, 3);
            desk.word(0, 55);
            desk.file(17);
            desk.word(0, 66);
            desk.file(1);
            for (int keeper = 0; keeper < 4; keeper++) {
                desk.place(2, keeper);
                if (keeper != 2) {
                    desk.place(1, keeper);
                    desk.lose(keeper, 1, keeper);
                    desk.lose(keeper, 1, 6);
                    desk.change(keeper, 1, 7, 4, 1);
                    desk.change(keeper, 1, 11, keeper, 1);
                }
            }
            desk.lose(0, 0, 23);
            desk.challenge(2, 0, 5, 6);
            desk.judge();
            desk.locate(1, 3);
            desk.fetch(2);
            return desk;
        };
        state.rows = new int[] {24, 12, 6};
        state.had = new boolean[][] {
            {true, true, true, true}, {true, true, false, true}, {true, true, true, true}};
        state.fails = new boolean[] {false, true, false};
        state.lost = new int[][] {{0, 0, 23}, {0, 1, 0}, {0, 1, 6}, {1, 1, 1}, {3, 1, 6}};
        state.asked = 6;
        state.found = 4;
        state.fetched = 1;
        return state;
    }

    // ---- the calls that are refused in a state

    private static List<Refusal> refusalsIn(State state) {
        List<Refusal> list = new ArrayList<>();
        keyWordAndFile(state, list);
        for (int file : new int[] {-1, state.rows.length, 3, MAX, MIN}) {
            for (int keeper = 0; keeper < 4; keeper++) {
                placeRepairOut(file, keeper, list);
                notHad(keeper, file, list);
            }
            add(list, "fetch(" + file + ")", INDEX, desk -> desk.fetch(file));
            add(list, "made(" + file + ", 0, 0)", INDEX, desk -> desk.made(file, 0, 0));
        }
        for (int file = 0; file < state.rows.length; file++) {
            for (int keeper : NO_KEEPERS) {
                placeRepairOut(file, keeper, list);
                notHad(keeper, file, list);
            }
            ofFile(state, file, list);
            for (int keeper = 0; keeper < 4; keeper++) {
                if (state.had[file][keeper]) {
                    had(keeper, file, state.rows[file], list);
                } else {
                    notHad(keeper, file, list);
                }
            }
        }
        for (int[] row : state.lost) {
            lost(row[0], row[1], row[2], list);
        }
        challengeAndAnswers(state, list);
        rotaAndScore(state, list);
        return list;
    }

    private static void add(List<Refusal> list, String text, String due, Call call) {
        list.add(new Refusal(text, due, call));
    }

    private static void keyWordAndFile(State state, List<Refusal> list) {
        for (int i : new int[] {-1, 64, MAX, MIN}) {
            add(list, "word(" + i + ", 1)", FALSE, desk -> desk.word(i, 1) ? 1 : 0);
        }
        for (int w : NO_FIELD_NUMBERS) {
            add(list, "word(0, " + w + ")", FALSE, desk -> desk.word(0, w) ? 1 : 0);
            add(list, "word(63, " + w + ")", FALSE, desk -> desk.word(63, w) ? 1 : 0);
        }
        for (int n : new int[] {0, -1, 65, MAX, MIN}) {
            add(list, "file(" + n + ")", ARGUMENT, desk -> desk.file(n));
        }
        if (state.rows.length == 3) {
            add(list, "file(1)", STATE, desk -> desk.file(1));
            add(list, "file(64)", STATE, desk -> desk.file(64));
        }
        if (state.rows.length > 0) {
            add(list, "key(9, 9)", STATE, desk -> {
                desk.key(9, 9);
                return 0;
            });
        }
    }

    private static void placeRepairOut(int file, int keeper, List<Refusal> list) {
        String both = "(" + file + ", " + keeper + ")";
        add(list, "place" + both, INDEX, desk -> desk.place(file, keeper) ? 1 : 0);
        add(list, "repair" + both, INDEX, desk -> desk.repair(file, keeper));
    }

    private static void notHad(int keeper, int file, List<Refusal> list) {
        String both = "(" + keeper + ", " + file;
        add(list, "lose" + both + ", 0)", ARGUMENT, desk -> desk.lose(keeper, file, 0) ? 1 : 0);
        add(list, "change" + both + ", 0, 0, 1)", ARGUMENT, desk -> desk.change(keeper, file, 0, 0, 1));
        add(list, "kept" + both + ", 0, 5)", ARGUMENT, desk -> desk.kept(keeper, file, 0, 5));
        both = "(" + file + ", " + keeper;
        add(list, "challenge" + both + ", 8, 1)", ARGUMENT, desk -> desk.challenge(file, keeper, 8, 1));
        add(list, "locate" + both + ")", ARGUMENT, desk -> desk.locate(file, keeper));
    }

    private static void ofFile(State state, int file, List<Refusal> list) {
        for (int row : new int[] {-1, state.rows[file], MAX, MIN}) {
            add(list, "made(" + file + ", " + row + ", 0)", INDEX, desk -> desk.made(file, row, 0));
        }
        for (int j : new int[] {-1, 5, MAX, MIN}) {
            add(list, "made(" + file + ", 0, " + j + ")", INDEX, desk -> desk.made(file, 0, j));
        }
        if (state.fails[file]) {
            add(list, "fetch(" + file + ")", STATE, desk -> desk.fetch(file));
            for (int keeper = 0; keeper < 4; keeper++) {
                int who = keeper;
                add(list, "repair(" + file + ", " + keeper + ")", STATE, desk -> desk.repair(file, who));
            }
        }
    }

    private static void had(int keeper, int file, int rows, List<Refusal> list) {
        String both = "(" + keeper + ", " + file + ", ";
        add(list, "place(" + file + ", " + keeper + ")", FALSE, desk -> desk.place(file, keeper) ? 1 : 0);
        for (int row : new int[] {-1, rows, MAX, MIN}) {
            add(list, "lose" + both + row + ")", ARGUMENT, desk -> desk.lose(keeper, file, row) ? 1 : 0);
            add(list, "change" + both + row + ", 0, 1)", ARGUMENT, desk -> desk.change(keeper, file, row, 0, 1));
            add(list, "kept" + both + row + ", 0)", ARGUMENT, desk -> desk.kept(keeper, file, row, 0));
        }
        for (int j : new int[] {-1, 5, MAX, MIN}) {
            add(list, "change" + both + "3, " + j + ", 1)", ARGUMENT, desk -> desk.change(keeper, file, 3, j, 1));
        }
        for (int d : NO_FIELD_NUMBERS) {
            add(list, "change" + both + "3, 4, " + d + ")", ARGUMENT, desk -> desk.change(keeper, file, 3, 4, d));
        }
        for (int j : new int[] {-1, 6, MAX, MIN}) {
            add(list, "kept" + both + "3, " + j + ")", ARGUMENT, desk -> desk.kept(keeper, file, 3, j));
        }
        for (int m : new int[] {0, -1, rows + 1, MAX, MIN}) {
            add(list, "challenge(" + file + ", " + keeper + ", 8, " + m + ")", ARGUMENT,
                    desk -> desk.challenge(file, keeper, 8, m));
        }
    }

    private static void lost(int keeper, int file, int row, List<Refusal> list) {
        String all = "(" + keeper + ", " + file + ", " + row;
        add(list, "lose" + all + ")", FALSE, desk -> desk.lose(keeper, file, row) ? 1 : 0);
        for (int j = 0; j < 5; j++) {
            int number = j;
            add(list, "change" + all + ", " + j + ", 1)", STATE, desk -> desk.change(keeper, file, row, number, 1));
        }
        add(list, "change" + all + ", 5, 1)", ARGUMENT, desk -> desk.change(keeper, file, row, 5, 1));
        add(list, "change" + all + ", 0, P)", ARGUMENT, desk -> desk.change(keeper, file, row, 0, P));
        add(list, "kept" + all + ", 6)", ARGUMENT, desk -> desk.kept(keeper, file, row, 6));
    }

    private static void challengeAndAnswers(State state, List<Refusal> list) {
        for (int i : new int[] {-1, state.asked, 24, MAX, MIN}) {
            add(list, "asked(0, " + i + ")", NONE, desk -> desk.asked(0, i));
            add(list, "asked(1, " + i + ")", NONE, desk -> desk.asked(1, i));
        }
        for (int i : new int[] {-1, state.asked == 0 ? 0 : 5, MAX, MIN}) {
            add(list, "asked(2, " + i + ")", NONE, desk -> desk.asked(2, i));
            add(list, "tamper(" + i + ", 1)", FALSE, desk -> desk.tamper(i, 1) ? 1 : 0);
        }
        for (int w : new int[] {-1, 3, MAX, MIN}) {
            add(list, "asked(" + w + ", 0)", NONE, desk -> desk.asked(w, 0));
        }
        for (int d : NO_FIELD_NUMBERS) {
            add(list, "tamper(0, " + d + ")", FALSE, desk -> desk.tamper(0, d) ? 1 : 0);
            add(list, "tamper(4, " + d + ")", FALSE, desk -> desk.tamper(4, d) ? 1 : 0);
        }
        if (state.asked == 0) {
            add(list, "judge()", STATE, desk -> desk.judge() ? 1 : 0);
        }
        for (int k : new int[] {-1, state.found, 24, MAX, MIN}) {
            add(list, "found(" + k + ")", NONE, desk -> desk.found(k));
        }
        for (int i : new int[] {-1, state.fetched, 64, MAX, MIN}) {
            add(list, "fetched(" + i + ")", NONE, desk -> desk.fetched(i));
        }
    }

    private static void rotaAndScore(State state, List<Refusal> list) {
        boolean nobody = state.had.length == 0 || state.fails.length == 1 && state.fails[0];
        for (int t : nobody ? new int[] {-1, MIN, 0, MAX} : new int[] {-1, MIN}) {
            add(list, "rota(" + t + ")", NONE, desk -> desk.rota(t));
        }
        for (int keeper : new int[] {4, -1 - state.rows.length, -4, MAX, MIN}) {
            add(list, "score(" + keeper + ", 0)", NONE, desk -> desk.score(keeper, 0));
        }
        for (int w : new int[] {-1, 3, MAX, MIN}) {
            add(list, "score(0, " + w + ")", NONE, desk -> desk.score(0, w));
            add(list, "score(-1, " + w + ")", NONE, desk -> desk.score(-1, w));
        }
        add(list, "score(-1, 2)", NONE, desk -> desk.score(-1, 2));
    }
}
