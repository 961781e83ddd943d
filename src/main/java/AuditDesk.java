public final class AuditDesk {

    public static final int NONE = -1;

    private static final int FILES = 3;
    private static final int KEEPERS = 4;
    private static final int MOST_WORDS = 64;
    private static final int MOST_ROWS = 24;
    private static final int GROUP_WORDS = 16;
    private static final int GROUP_ROWS = 6;
    private static final int PLAIN_ROWS = 4;
    private static final int ROW_WORDS = 4;
    private static final int TAG = 4;
    private static final int ROW_NUMBERS = 5;
    private static final int LOST_FLAG = 5;

    private long keyA;
    private long keyB;
    private final int[] buffer;
    private final Deposit[] deposits;
    private int fileCount;
    private final Keeper[] keepers;
    private final Challenge latest;
    private final int[] badRows;
    private int badCount;
    private final int[] fetchedWords;
    private int fetchedCount;
    private final Rows gathered;
    private final boolean[] present;

    public AuditDesk() {
        buffer = new int[MOST_WORDS];
        deposits = new Deposit[FILES];
        for (int f = 0; f < FILES; f++) {
            deposits[f] = new Deposit();
        }
        keepers = new Keeper[KEEPERS];
        for (int k = 0; k < KEEPERS; k++) {
            keepers[k] = new Keeper();
        }
        latest = new Challenge();
        badRows = new int[MOST_ROWS];
        fetchedWords = new int[MOST_WORDS];
        gathered = new Rows();
        present = new boolean[GROUP_ROWS];
    }

    public void key(long a, long b) throws IllegalStateException {
        if (fileCount > 0) {
            throw new IllegalStateException("there is a file");
        }
        keyA = a;
        keyB = b;
    }

    public boolean word(int i, int w) {
        if (i < 0 || i >= MOST_WORDS || !Field.has(w)) {
            return false;
        }
        buffer[i] = w;
        return true;
    }

    public int file(int n) throws IllegalArgumentException, IllegalStateException {
        if (n < 1 || n > MOST_WORDS) {
            throw new IllegalArgumentException("a file has 1 to 64 words");
        }
        if (fileCount >= FILES) {
            throw new IllegalStateException("there are 3 files");
        }
        int number = fileCount;
        deposits[number].drawSecrets(keyA, keyB, number);
        deposits[number].make(buffer, n);
        fileCount = number + 1;
        return number;
    }

    public boolean place(int file, int keeper) throws IndexOutOfBoundsException {
        if (!isFile(file) || !isKeeper(keeper)) {
            throw new IndexOutOfBoundsException("no such file or keeper");
        }
        Copy copy = keepers[keeper].copies[file];
        if (copy.had) {
            return false;
        }
        copy.become(deposits[file].rows, deposits[file].rowCount);
        return true;
    }

    public boolean lose(int keeper, int file, int row) throws IllegalArgumentException {
        if (!keepsRow(keeper, file, row)) {
            throw new IllegalArgumentException("no such row of a keeper");
        }
        Copy copy = keepers[keeper].copies[file];
        if (copy.lost[row]) {
            return false;
        }
        copy.drop(row);
        return true;
    }

    public int change(int keeper, int file, int row, int j, int d)
            throws IllegalArgumentException, IllegalStateException {
        if (!keepsRow(keeper, file, row) || !isRowNumber(j) || !Field.has(d)) {
            throw new IllegalArgumentException("no such number of a keeper's row, or d is not of the field");
        }
        Copy copy = keepers[keeper].copies[file];
        if (copy.lost[row]) {
            throw new IllegalStateException("the row is lost");
        }
        int changed = Field.plus(copy.rows.get(row, j), d);
        copy.rows.set(row, j, changed);
        return changed;
    }

    public int challenge(int file, int keeper, int seed, int m) throws IllegalArgumentException {
        if (!keeps(keeper, file) || m < 1 || m > deposits[file].rowCount) {
            throw new IllegalArgumentException("the keeper has no such file, or m is not 1 to its rows");
        }
        latest.pose(file, keeper);
        latest.draw(seed, m, deposits[file].rowCount);
        latest.answerFrom(keepers[keeper].copies[file].rows);
        return latest.rows[0];
    }

    public int asked(int w, int i) {
        if (!latest.posed || i < 0) {
            return NONE;
        }
        if (w == 0 && i < latest.count) {
            return latest.rows[i];
        }
        if (w == 1 && i < latest.count) {
            return latest.coefficients[i];
        }
        if (w == 2 && i < ROW_NUMBERS) {
            return latest.answer[i];
        }
        return NONE;
    }

    public boolean tamper(int i, int d) {
        if (!latest.posed || !isRowNumber(i) || !Field.has(d)) {
            return false;
        }
        latest.answer[i] = Field.plus(latest.answer[i], d);
        return true;
    }

    public boolean judge() throws IllegalStateException {
        if (!latest.posed) {
            throw new IllegalStateException("no challenge");
        }
        boolean holds = latest.holds(deposits[latest.file]);
        if (holds) {
            keepers[latest.keeper].heldAnswers++;
        } else {
            keepers[latest.keeper].failedAnswers++;
        }
        return holds;
    }

    public int locate(int file, int keeper) throws IllegalArgumentException {
        if (!keeps(keeper, file)) {
            throw new IllegalArgumentException("the keeper has no such file");
        }
        badCount = 0;
        for (int row = 0; row < deposits[file].rowCount; row++) {
            if (!isGood(keeper, file, row)) {
                badRows[badCount] = row;
                badCount++;
            }
        }
        return badCount;
    }

    public int found(int k) {
        return k >= 0 && k < badCount ? badRows[k] : NONE;
    }

    public int repair(int file, int keeper) throws IndexOutOfBoundsException, IllegalStateException {
        if (!isFile(file) || !isKeeper(keeper)) {
            throw new IndexOutOfBoundsException("no such file or keeper");
        }
        if (!gather(file)) {
            throw new IllegalStateException("a group has not four good rows");
        }
        int again = keepers[keeper].copies[file].become(gathered, deposits[file].rowCount);
        keepers[keeper].repairedRows += again;
        return again;
    }

    public int fetch(int file) throws IndexOutOfBoundsException, IllegalStateException {
        if (!isFile(file)) {
            throw new IndexOutOfBoundsException("no such file");
        }
        if (!gather(file)) {
            throw new IllegalStateException("a group has not four good rows");
        }
        fetchedCount = deposits[file].wordCount;
        for (int i = 0; i < fetchedCount; i++) {
            fetchedWords[i] = gathered.get(Rows.rowOfWord(i), i % ROW_WORDS);
        }
        return fetchedCount;
    }

    public int fetched(int i) {
        return i >= 0 && i < fetchedCount ? fetchedWords[i] : NONE;
    }

    public int made(int file, int row, int j) throws IndexOutOfBoundsException {
        if (!isFile(file) || row < 0 || row >= deposits[file].rowCount || !isRowNumber(j)) {
            throw new IndexOutOfBoundsException("no such number of a file's row");
        }
        return deposits[file].rows.get(row, j);
    }

    public int kept(int keeper, int file, int row, int j) throws IllegalArgumentException {
        if (!keepsRow(keeper, file, row) || !isRowNumber(j) && j != LOST_FLAG) {
            throw new IllegalArgumentException("no such number of a keeper's row");
        }
        Copy copy = keepers[keeper].copies[file];
        if (j == LOST_FLAG) {
            return copy.lost[row] ? 1 : 0;
        }
        return copy.rows.get(row, j);
    }

    public int rota(int t) {
        int copies = countCopies();
        if (t < 0 || copies == 0) {
            return NONE;
        }
        int ahead = t % copies;
        for (int f = 0; f < fileCount; f++) {
            for (int k = 0; k < KEEPERS; k++) {
                if (!keepers[k].copies[f].had) {
                    continue;
                }
                if (ahead == 0) {
                    return 8 * f + k;
                }
                ahead--;
            }
        }
        return NONE;
    }

    public int score(int keeper, int w) {
        if (isKeeper(keeper)) {
            return keepers[keeper].tally(w);
        }
        int file = -1 - keeper;
        if (!isFile(file)) {
            return NONE;
        }
        if (w == 0) {
            return deposits[file].wordCount;
        }
        return w == 1 ? deposits[file].rowCount : NONE;
    }

    private boolean isFile(int file) {
        return file >= 0 && file < fileCount;
    }

    private static boolean isKeeper(int keeper) {
        return keeper >= 0 && keeper < KEEPERS;
    }

    private static boolean isRowNumber(int j) {
        return j >= 0 && j < ROW_NUMBERS;
    }

    private boolean keeps(int keeper, int file) {
        return isKeeper(keeper) && isFile(file) && keepers[keeper].copies[file].had;
    }

    private boolean keepsRow(int keeper, int file, int row) {
        return keeps(keeper, file) && row >= 0 && row < deposits[file].rowCount;
    }

    private boolean isGood(int keeper, int file, int row) {
        Copy copy = keepers[keeper].copies[file];
        return copy.had && !copy.lost[row] && copy.rows.get(row, TAG) == deposits[file].tagOf(copy.rows, row);
    }

    private int countCopies() {
        int copies = 0;
        for (int f = 0; f < fileCount; f++) {
            for (int k = 0; k < KEEPERS; k++) {
                if (keepers[k].copies[f].had) {
                    copies++;
                }
            }
        }
        return copies;
    }

    /* Only the room for gathered rows is written, which no caller can see: a gathering that fails changes nothing. */
    private boolean gather(int file) {
        Deposit deposit = deposits[file];
        for (int first = 0; first < deposit.rowCount; first += GROUP_ROWS) {
            if (!gatherGroup(file, first)) {
                return false;
            }
            gathered.recover(first, present);
        }
        deposit.complete(gathered);
        return true;
    }

    private boolean gatherGroup(int file, int first) {
        int taken = 0;
        for (int r = 0; r < GROUP_ROWS; r++) {
            int keeper = taken < PLAIN_ROWS ? leastGoodKeeper(file, first + r) : NONE;
            present[r] = keeper != NONE;
            if (present[r]) {
                gathered.takeRow(keepers[keeper].copies[file].rows, first + r);
                taken++;
            }
        }
        return taken == PLAIN_ROWS;
    }

    private int leastGoodKeeper(int file, int row) {
        for (int k = 0; k < KEEPERS; k++) {
            if (isGood(k, file, row)) {
                return k;
            }
        }
        return NONE;
    }

    private static final class Field {

        static final int P = 2147483647;

        /* The rows' rule divides by 1 .. 5 alone, so that these stand for a general division. */
        static final int[] INVERSES = {0, 1, 1073741824, 1431655765, 536870912, 858993459};

        static boolean has(int number) {
            return number >= 0 && number < P;
        }

        static int plus(int a, int b) {
            return (int) (((long) a + b) % P);
        }

        static int minus(int a, int b) {
            return (int) (((long) a - b + P) % P);
        }

        static int times(int a, int b) {
            return (int) ((long) a * b % P);
        }

        static int secret(long a, long b, int n) {
            long x = a + n * 0x9E3779B97F4A7C15L;
            for (int round = 0; round < 4; round++) {
                x = (x ^ (x >>> 30)) * 0xBF58476D1CE4E5B9L;
                x = (x ^ (x >>> 27)) * 0x94D049BB133111EBL;
                x = (x ^ (x >>> 31)) + b;
            }
            return (int) ((x >>> 33) % P);
        }
    }

    /* One flat array for all rows of a file, each with four words and its tag. */
    private static final class Rows {

        private final int[] numbers = new int[MOST_ROWS * ROW_NUMBERS];

        static int rowOfWord(int i) {
            return i / GROUP_WORDS * GROUP_ROWS + i % GROUP_WORDS / ROW_WORDS;
        }

        int get(int row, int j) {
            return numbers[row * ROW_NUMBERS + j];
        }

        void set(int row, int j, int number) {
            numbers[row * ROW_NUMBERS + j] = number;
        }

        void takeRow(Rows from, int row) {
            System.arraycopy(from.numbers, row * ROW_NUMBERS, numbers, row * ROW_NUMBERS, ROW_NUMBERS);
        }

        void clearRow(int row) {
            for (int j = 0; j < ROW_NUMBERS; j++) {
                set(row, j, 0);
            }
        }

        boolean sameRow(Rows other, int row) {
            for (int j = 0; j < ROW_NUMBERS; j++) {
                if (get(row, j) != other.get(row, j)) {
                    return false;
                }
            }
            return true;
        }

        void spread(int first) {
            for (int c = 0; c < GROUP_ROWS - PLAIN_ROWS; c++) {
                for (int j = 0; j < ROW_WORDS; j++) {
                    set(first + PLAIN_ROWS + c, j, codedWord(first, c, j));
                }
            }
        }

        private int codedWord(int first, int c, int j) {
            int sum = 0;
            for (int r = 0; r < PLAIN_ROWS; r++) {
                sum = Field.plus(sum, Field.times(get(first + r, j), Field.INVERSES[PLAIN_ROWS + c - r]));
            }
            return sum;
        }

        /* Four rows are present, so that as many coded rows are there as plain rows are missing. */
        void recover(int first, boolean[] present) {
            int low = nextMissing(present, 0);
            if (low == PLAIN_ROWS) {
                return;
            }
            clearRow(first + low);
            int high = nextMissing(present, low + 1);
            if (high == PLAIN_ROWS) {
                recoverOne(first, low, present[PLAIN_ROWS] ? 0 : 1);
            } else {
                clearRow(first + high);
                recoverTwo(first, low, high);
            }
        }

        private static int nextMissing(boolean[] present, int from) {
            for (int r = from; r < PLAIN_ROWS; r++) {
                if (!present[r]) {
                    return r;
                }
            }
            return PLAIN_ROWS;
        }

        private void recoverOne(int first, int missing, int c) {
            for (int j = 0; j < ROW_WORDS; j++) {
                set(first + missing, j, Field.times(rest(first, c, j), PLAIN_ROWS + c - missing));
            }
        }

        /*
         * With a = 4 - low and b = 4 - high, the rests are l / a + h / b and l / (a + 1) + h / (b + 1).
         * Without their denominators they are l * b + h * a and that + l + h, which leaves a division by a - b alone.
         */
        private void recoverTwo(int first, int low, int high) {
            int a = PLAIN_ROWS - low;
            int b = PLAIN_ROWS - high;
            for (int j = 0; j < ROW_WORDS; j++) {
                int crossed = Field.times(rest(first, 0, j), a * b);
                int both = Field.minus(Field.times(rest(first, 1, j), (a + 1) * (b + 1)), crossed);
                int h = Field.times(Field.minus(crossed, Field.times(both, b)), Field.INVERSES[a - b]);
                set(first + low, j, Field.minus(both, h));
                set(first + high, j, h);
            }
        }

        /* Missing rows are 0 until they are set, so that this is what they alone give to the coded word. */
        private int rest(int first, int c, int j) {
            return Field.minus(get(first + PLAIN_ROWS + c, j), codedWord(first, c, j));
        }
    }

    private static final class Deposit {

        int wordCount;
        int rowCount;
        final int[] alphas = new int[ROW_WORDS];
        final int[] masks = new int[MOST_ROWS];
        final Rows rows = new Rows();

        void drawSecrets(long a, long b, int number) {
            for (int j = 0; j < ROW_WORDS; j++) {
                alphas[j] = Field.secret(a, b, 64 * number + j);
            }
            for (int row = 0; row < MOST_ROWS; row++) {
                masks[row] = Field.secret(a, b, 64 * number + 8 + row);
            }
        }

        void make(int[] words, int n) {
            wordCount = n;
            rowCount = (n + GROUP_WORDS - 1) / GROUP_WORDS * GROUP_ROWS;
            for (int i = 0; i < n; i++) {
                rows.set(Rows.rowOfWord(i), i % ROW_WORDS, words[i]);
            }
            complete(rows);
        }

        void complete(Rows plain) {
            for (int first = 0; first < rowCount; first += GROUP_ROWS) {
                plain.spread(first);
            }
            for (int row = 0; row < rowCount; row++) {
                plain.set(row, TAG, tagOf(plain, row));
            }
        }

        int tagOf(Rows words, int row) {
            int tag = masks[row];
            for (int j = 0; j < ROW_WORDS; j++) {
                tag = Field.plus(tag, Field.times(alphas[j], words.get(row, j)));
            }
            return tag;
        }
    }

    private static final class Copy {

        boolean had;
        final Rows rows = new Rows();
        final boolean[] lost = new boolean[MOST_ROWS];

        void drop(int row) {
            lost[row] = true;
            rows.clearRow(row);
        }

        int become(Rows source, int rowCount) {
            int others = 0;
            for (int row = 0; row < rowCount; row++) {
                if (!had || lost[row] || !rows.sameRow(source, row)) {
                    others++;
                }
                lost[row] = false;
                rows.takeRow(source, row);
            }
            had = true;
            return others;
        }
    }

    private static final class Keeper {

        final Copy[] copies;
        int heldAnswers;
        int failedAnswers;
        int repairedRows;

        Keeper() {
            copies = new Copy[FILES];
            for (int f = 0; f < FILES; f++) {
                copies[f] = new Copy();
            }
        }

        int tally(int w) {
            switch (w) {
                case 0:
                    return heldAnswers;
                case 1:
                    return failedAnswers;
                case 2:
                    return repairedRows;
                default:
                    return NONE;
            }
        }
    }

    private static final class Challenge {

        boolean posed;
        int file;
        int keeper;
        int count;
        final int[] rows = new int[MOST_ROWS];
        final int[] coefficients = new int[MOST_ROWS];
        final int[] answer = new int[ROW_NUMBERS];
        private final boolean[] drawn = new boolean[MOST_ROWS];

        void pose(int ofFile, int toKeeper) {
            posed = true;
            file = ofFile;
            keeper = toKeeper;
        }

        void draw(int seed, int m, int rowCount) {
            for (int row = 0; row < rowCount; row++) {
                drawn[row] = false;
            }
            count = m;
            int x = seed;
            for (int i = 0; i < m; i++) {
                x = step(x);
                rows[i] = nextUndrawn((x >>> 16) % rowCount, rowCount);
                drawn[rows[i]] = true;
                x = step(x);
                coefficients[i] = 1 + (x >>> 1) % (Field.P - 1);
            }
        }

        private static int step(int x) {
            return x * 1103515245 + 12345;
        }

        private int nextUndrawn(int from, int rowCount) {
            int row = from;
            for (int tries = 0; tries < rowCount && drawn[row]; tries++) {
                row = row + 1 < rowCount ? row + 1 : 0;
            }
            return row;
        }

        void answerFrom(Rows kept) {
            for (int j = 0; j < ROW_NUMBERS; j++) {
                int sum = 0;
                for (int i = 0; i < count; i++) {
                    sum = Field.plus(sum, Field.times(coefficients[i], kept.get(rows[i], j)));
                }
                answer[j] = sum;
            }
        }

        boolean holds(Deposit deposit) {
            int due = 0;
            for (int i = 0; i < count; i++) {
                due = Field.plus(due, Field.times(coefficients[i], deposit.masks[rows[i]]));
            }
            for (int j = 0; j < ROW_WORDS; j++) {
                due = Field.plus(due, Field.times(deposit.alphas[j], answer[j]));
            }
            return answer[TAG] == due;
        }
    }
}
