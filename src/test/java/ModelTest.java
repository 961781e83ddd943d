import java.lang.reflect.InvocationTargetException;
import java.lang.reflect.Method;
import java.math.BigInteger;
import java.util.ArrayList;
import java.util.Arrays;
import java.util.HashMap;
import java.util.List;
import java.util.Map;
import java.util.Random;
import java.util.TreeMap;

/**
 * Long runs of calls by chance (of fixed seeds), each answered by the class and by a slow model that is written
 * another way: big numbers, maps, and a general elimination in place of the class's two closed forms.
 */
public final class ModelTest {

    private static final int RUNS = 1500;
    private static final int CALLS = 512;
    private static final int PRIME = 2147483647;
    private static final Map<String, Method> DESK = methodsOf(AuditDesk.class);
    private static final Map<String, Method> MODEL = methodsOf(Model.class);
    private static final TreeMap<String, Integer> OUTCOMES = new TreeMap<>();

    public static void main(String[] args) throws Exception {
        int wrong = 0;
        for (int run = 0; run < RUNS; run++) {
            wrong += oneRun(run);
        }
        for (String name : DESK.keySet()) {
            if (OUTCOMES.getOrDefault(name + " answers", 0) < RUNS) {
                wrong++;
                System.out.println(name + " hardly ever answers in these runs");
            }
            for (Class<?> e : DESK.get(name).getExceptionTypes()) {
                if (OUTCOMES.getOrDefault(name + " throws." + e.getSimpleName(), 0) < 20) {
                    wrong++;
                    System.out.println(name + " hardly ever throws " + e.getSimpleName() + " in these runs");
                }
            }
        }
        System.out.println(wrong == 0 ? "the model agrees" : wrong + " faults");
        if (wrong != 0) {
            System.exit(1);
        }
    }

    private static Map<String, Method> methodsOf(Class<?> type) {
        Map<String, Method> methods = new TreeMap<>();
        for (Method m : type.getDeclaredMethods()) {
            if (java.lang.reflect.Modifier.isPublic(m.getModifiers())) {
                m.setAccessible(true);
                methods.put(m.getName(), m);
            }
        }
        return methods;
    }

    private static int oneRun(int run) throws Exception {
        AuditDesk desk = new AuditDesk();
        Model model = new Model();
        Calls calls = new Calls(new Random(1000003L * run + 17), model, run);
        List<String> history = new ArrayList<>();
        for (int n = 0; n < CALLS; n++) {
            Object[] call = calls.next(n);
            String name = (String) call[0];
            Object[] arguments = Arrays.copyOfRange(call, 1, call.length);
            String due = answer(MODEL.get(name), model, arguments);
            String got = answer(DESK.get(name), desk, arguments);
            OUTCOMES.merge(name + " " + (due.startsWith("throws") ? due : "answers"), 1, Integer::sum);
            history.add(name + Arrays.toString(arguments) + " -> " + due);
            if (!due.equals(got)) {
                System.out.println("run " + run + ", call " + n + ": " + name + Arrays.toString(arguments)
                        + " answered " + got + ", due is " + due + "; before it: "
                        + history.subList(Math.max(0, n - 12), n));
                return 1;
            }
        }
        return 0;
    }

    private static String answer(Method m, Object target, Object[] arguments) throws Exception {
        try {
            return String.valueOf(m.invoke(target, arguments));
        } catch (InvocationTargetException e) {
            return "throws." + e.getCause().getClass().getSimpleName();
        }
    }

    /** Which call comes next: mostly sensible ones, with edges and nonsense among them. */
    private static final class Calls {

        private final Random random;
        private final Model model;
        private final boolean weakKey;
        private final int harm;
        private Object[] forgedTag;

        Calls(Random random, Model model, int run) {
            this.random = random;
            this.model = model;
            this.weakKey = run % 3 == 0;
            this.harm = 1 + run % 4;
        }

        Object[] next(int n) {
            if (forgedTag != null) {
                Object[] call = forgedTag;
                forgedTag = null;
                return call;
            }
            if (n < 40 && random.nextInt(4) != 0) {
                return new Object[] {"word", random.nextInt(66) - 1, fieldNumber()};
            }
            if (n < 60 && !weakKey && random.nextInt(8) == 0) {
                return new Object[] {"key", random.nextLong(), random.nextLong()};
            }
            if (n >= 30 && n < 110 && random.nextInt(6) == 0) {
                return new Object[] {"file", fileSize()};
            }
            if (n >= 40 && random.nextInt(8) < harm) {
                return harming();
            }
            return random.nextInt(3) == 0 ? acting() : looking();
        }

        private Object[] harming() {
            int file = file();
            int keeper = keeper();
            switch (random.nextInt(6)) {
                case 0:
                case 1:
                    return new Object[] {"lose", keeper, file, row(file)};
                case 4:
                    return forging(file, keeper, row(file), random.nextInt(4), random.nextInt(PRIME));
                case 2:
                    return new Object[] {"change", keeper, file, row(file), 0, 1 + random.nextInt(3)};
                case 3:
                    return new Object[] {"change", keeper, file, row(file), random.nextInt(7) - 1, fieldNumber()};
                default:
                    return new Object[] {"tamper", random.nextInt(7) - 1, fieldNumber()};
            }
        }

        /** A word is changed and, by the next call, its tag along with it, so that the row stays GOOD and is another. */
        private Object[] forging(int file, int keeper, int row, int j, int d) {
            if (model.isFile(file)) {
                BigInteger along = model.files.get(file).alphas.get(j).multiply(Model.big(d)).mod(Model.P);
                forgedTag = new Object[] {"change", keeper, file, row, 4, along.intValueExact()};
            }
            return new Object[] {"change", keeper, file, row, j, d};
        }

        private Object[] acting() {
            int file = file();
            int keeper = keeper();
            switch (random.nextInt(10)) {
                case 0:
                case 1:
                    return new Object[] {"place", file, keeper};
                case 2:
                case 3:
                    return new Object[] {"challenge", file, keeper, random.nextInt(), count(file)};
                case 4:
                    return new Object[] {"repair", file, keeper};
                case 5:
                    return new Object[] {"fetch", file};
                case 6:
                    return new Object[] {"locate", file, keeper};
                case 7:
                    return new Object[] {"judge"};
                case 8:
                    return random.nextInt(3) == 0 ? new Object[] {"file", fileSize()}
                            : new Object[] {"word", random.nextInt(66) - 1, fieldNumber()};
                default:
                    return random.nextInt(3) == 0 && !weakKey ? new Object[] {"key", 1L, 2L} : new Object[] {"judge"};
            }
        }

        private Object[] looking() {
            int file = file();
            int keeper = keeper();
            switch (random.nextInt(8)) {
                case 0:
                    return new Object[] {"asked", random.nextInt(5) - 1, random.nextInt(26) - 1};
                case 1:
                    return new Object[] {"asked", 2, random.nextInt(7) - 1};
                case 2:
                    return new Object[] {"found", random.nextInt(10) - 1};
                case 3:
                    return new Object[] {"fetched", random.nextInt(67) - 1};
                case 4:
                    return new Object[] {"made", file, row(file), random.nextInt(7) - 1};
                case 5:
                    return new Object[] {"kept", keeper, file, row(file), random.nextInt(8) - 1};
                case 6:
                    return new Object[] {"rota", random.nextInt(4) == 0 ? random.nextInt() : random.nextInt(14) - 1};
                default:
                    return new Object[] {"score", random.nextInt(16) == 0 ? random.nextInt() : random.nextInt(10) - 5,
                        random.nextInt(5) - 1};
            }
        }

        private int file() {
            return odd() ? extreme() : random.nextInt(Math.max(1, model.files.size()));
        }

        private int keeper() {
            return odd() ? extreme() : random.nextInt(4);
        }

        private int row(int file) {
            return odd() ? extreme() : random.nextInt(rows(file) + (odd() ? 2 : 0));
        }

        private int count(int file) {
            return odd() ? extreme() : 1 + random.nextInt(rows(file) + (odd() ? 1 : 0));
        }

        private int rows(int file) {
            return file >= 0 && file < model.files.size() ? model.files.get(file).rows.size() : 6;
        }

        private int fileSize() {
            int[] edges = {0, 1, 15, 16, 17, 32, 33, 63, 64, 65, -1};
            return random.nextBoolean() ? edges[random.nextInt(edges.length)] : 1 + random.nextInt(64);
        }

        private int fieldNumber() {
            return odd() ? extreme() : random.nextBoolean() ? random.nextInt(PRIME) : random.nextInt(4);
        }

        private boolean odd() {
            return random.nextInt(14) == 0;
        }

        private int extreme() {
            int[] values = {-1, -2, 3, 4, 5, 24, 25, 64, PRIME - 1, PRIME, Integer.MIN_VALUE};
            return values[random.nextInt(values.length)];
        }
    }

    /** The document once more, as plainly as it can be said. */
    static final class Model {

        static final BigInteger P = BigInteger.valueOf(PRIME);

        static final class ModelFile {
            int words;
            List<BigInteger> alphas = new ArrayList<>();
            List<BigInteger> masks = new ArrayList<>();
            List<BigInteger[]> rows = new ArrayList<>();
        }

        long a;
        long b;
        int[] buffer = new int[64];
        List<ModelFile> files = new ArrayList<>();
        // A keeper's file has the number 4 * file + keeper; a LOST row is null.
        TreeMap<Integer, List<BigInteger[]>> held = new TreeMap<>();
        Map<String, Integer> scores = new HashMap<>();
        List<Integer> found = new ArrayList<>();
        List<BigInteger> fetched = new ArrayList<>();
        int asking = -1;
        List<Integer> askedRows;
        List<BigInteger> coefficients;
        BigInteger[] answer;

        static BigInteger big(long n) {
            return BigInteger.valueOf(n);
        }

        static boolean inField(int n) {
            return n >= 0 && n < PRIME;
        }

        BigInteger secret(int n) {
            BigInteger two64 = BigInteger.ONE.shiftLeft(64);
            BigInteger x = big(a).add(big(n).multiply(new BigInteger("9E3779B97F4A7C15", 16))).mod(two64);
            for (int i = 0; i < 4; i++) {
                x = x.xor(x.shiftRight(30)).multiply(new BigInteger("BF58476D1CE4E5B9", 16)).mod(two64);
                x = x.xor(x.shiftRight(27)).multiply(new BigInteger("94D049BB133111EB", 16)).mod(two64);
                x = x.xor(x.shiftRight(31)).add(big(b)).mod(two64);
            }
            return x.shiftRight(33).mod(P);
        }

        static BigInteger weight(int rowInGroup, int r) {
            if (rowInGroup < 4) {
                return rowInGroup == r ? BigInteger.ONE : BigInteger.ZERO;
            }
            return big(rowInGroup - r).modInverse(P);
        }

        static BigInteger tag(ModelFile f, int row, BigInteger[] words) {
            BigInteger tag = f.masks.get(row);
            for (int j = 0; j < 4; j++) {
                tag = tag.add(f.alphas.get(j).multiply(words[j]));
            }
            return tag.mod(P);
        }

        static List<BigInteger[]> rowsOf(ModelFile f, BigInteger[] words) {
            List<BigInteger[]> rows = new ArrayList<>();
            for (int row = 0; row < words.length / 16 * 6; row++) {
                BigInteger[] line = new BigInteger[5];
                for (int j = 0; j < 4; j++) {
                    line[j] = BigInteger.ZERO;
                    for (int r = 0; r < 4; r++) {
                        line[j] = line[j].add(weight(row % 6, r).multiply(words[row / 6 * 16 + 4 * r + j])).mod(P);
                    }
                }
                line[4] = tag(f, row, line);
                rows.add(line);
            }
            return rows;
        }

        boolean isFile(int file) {
            return file >= 0 && file < files.size();
        }

        List<BigInteger[]> heldBy(int keeper, int file) {
            return isFile(file) && keeper >= 0 && keeper < 4 ? held.get(4 * file + keeper) : null;
        }

        static boolean good(ModelFile f, int row, BigInteger[] line) {
            return line != null && line[4].equals(tag(f, row, line));
        }

        static List<BigInteger[]> copyOf(List<BigInteger[]> rows) {
            List<BigInteger[]> copy = new ArrayList<>();
            for (BigInteger[] row : rows) {
                copy.add(row == null ? null : row.clone());
            }
            return copy;
        }

        BigInteger[] gather(int file) {
            ModelFile f = files.get(file);
            BigInteger[] words = new BigInteger[f.rows.size() / 6 * 16];
            for (int g = 0; g < f.rows.size() / 6; g++) {
                List<BigInteger[]> system = new ArrayList<>();
                for (int row = 6 * g; row < 6 * g + 6; row++) {
                    for (int keeper = 0; keeper < 4; keeper++) {
                        List<BigInteger[]> rows = heldBy(keeper, file);
                        if (rows != null && good(f, row, rows.get(row))) {
                            BigInteger[] line = rows.get(row);
                            BigInteger[] equation = new BigInteger[8];
                            for (int r = 0; r < 4; r++) {
                                equation[r] = weight(row % 6, r);
                                equation[4 + r] = line[r];
                            }
                            system.add(equation);
                            break;
                        }
                    }
                }
                if (system.size() < 4) {
                    throw new IllegalStateException();
                }
                solve(system.subList(0, 4));
                for (int i = 0; i < 16; i++) {
                    words[16 * g + i] = system.get(i / 4)[4 + i % 4];
                }
            }
            return words;
        }

        static void solve(List<BigInteger[]> system) {
            for (int r = 0; r < 4; r++) {
                int pivot = r;
                while (system.get(pivot)[r].signum() == 0) {
                    pivot++;
                }
                BigInteger[] line = system.set(pivot, system.get(r));
                system.set(r, line);
                BigInteger inverse = line[r].modInverse(P);
                for (int i = 0; i < 8; i++) {
                    line[i] = line[i].multiply(inverse).mod(P);
                }
                for (BigInteger[] other : system) {
                    if (other != line) {
                        BigInteger factor = other[r];
                        for (int i = 0; i < 8; i++) {
                            other[i] = other[i].subtract(factor.multiply(line[i])).mod(P);
                        }
                    }
                }
            }
        }

        public void key(long newA, long newB) {
            if (!files.isEmpty()) {
                throw new IllegalStateException();
            }
            a = newA;
            b = newB;
        }

        public boolean word(int i, int w) {
            if (i < 0 || i > 63 || !inField(w)) {
                return false;
            }
            buffer[i] = w;
            return true;
        }

        public int file(int n) {
            if (n < 1 || n > 64) {
                throw new IllegalArgumentException();
            }
            if (files.size() == 3) {
                throw new IllegalStateException();
            }
            ModelFile f = new ModelFile();
            f.words = n;
            int groups = n <= 16 ? 1 : n <= 32 ? 2 : n <= 48 ? 3 : 4;
            for (int j = 0; j < 4; j++) {
                f.alphas.add(secret(64 * files.size() + j));
            }
            for (int row = 0; row < 6 * groups; row++) {
                f.masks.add(secret(64 * files.size() + 8 + row));
            }
            BigInteger[] words = new BigInteger[16 * groups];
            for (int i = 0; i < words.length; i++) {
                words[i] = i < n ? big(buffer[i]) : BigInteger.ZERO;
            }
            f.rows = rowsOf(f, words);
            files.add(f);
            return files.size() - 1;
        }

        public boolean place(int file, int keeper) {
            if (!isFile(file) || keeper < 0 || keeper > 3) {
                throw new IndexOutOfBoundsException();
            }
            return held.putIfAbsent(4 * file + keeper, copyOf(files.get(file).rows)) == null;
        }

        public boolean lose(int keeper, int file, int row) {
            List<BigInteger[]> rows = heldBy(keeper, file);
            if (rows == null || row < 0 || row >= rows.size()) {
                throw new IllegalArgumentException();
            }
            return rows.set(row, null) != null;
        }

        public int change(int keeper, int file, int row, int j, int d) {
            List<BigInteger[]> rows = heldBy(keeper, file);
            if (rows == null || row < 0 || row >= rows.size() || j < 0 || j > 4 || !inField(d)) {
                throw new IllegalArgumentException();
            }
            if (rows.get(row) == null) {
                throw new IllegalStateException();
            }
            rows.get(row)[j] = rows.get(row)[j].add(big(d)).mod(P);
            return rows.get(row)[j].intValueExact();
        }

        public int challenge(int file, int keeper, int seed, int m) {
            List<BigInteger[]> rows = heldBy(keeper, file);
            if (rows == null || m < 1 || m > rows.size()) {
                throw new IllegalArgumentException();
            }
            asking = 4 * file + keeper;
            askedRows = new ArrayList<>();
            coefficients = new ArrayList<>();
            answer = new BigInteger[5];
            Arrays.fill(answer, BigInteger.ZERO);
            int x = seed;
            for (int i = 0; i < m; i++) {
                x = big(x).multiply(big(1103515245)).add(big(12345)).intValue();
                int row = (int) (((x & 0xFFFFFFFFL) / 65536) % rows.size());
                while (askedRows.contains(row)) {
                    row = (row + 1) % rows.size();
                }
                askedRows.add(row);
                x = big(x).multiply(big(1103515245)).add(big(12345)).intValue();
                coefficients.add(big((x & 0xFFFFFFFFL) / 2).mod(big(PRIME - 1)).add(BigInteger.ONE));
                for (int j = 0; j < 5 && rows.get(row) != null; j++) {
                    answer[j] = answer[j].add(coefficients.get(i).multiply(rows.get(row)[j])).mod(P);
                }
            }
            return askedRows.get(0);
        }

        public int asked(int w, int i) {
            if (asking < 0 || i < 0 || w < 0 || w > 2 || i >= (w == 2 ? 5 : askedRows.size())) {
                return -1;
            }
            return w == 0 ? askedRows.get(i) : (w == 1 ? coefficients.get(i) : answer[i]).intValueExact();
        }

        public boolean tamper(int i, int d) {
            if (asking < 0 || i < 0 || i > 4 || !inField(d)) {
                return false;
            }
            answer[i] = answer[i].add(big(d)).mod(P);
            return true;
        }

        public boolean judge() {
            if (asking < 0) {
                throw new IllegalStateException();
            }
            ModelFile f = files.get(asking / 4);
            BigInteger due = BigInteger.ZERO;
            for (int i = 0; i < askedRows.size(); i++) {
                due = due.add(coefficients.get(i).multiply(f.masks.get(askedRows.get(i))));
            }
            for (int j = 0; j < 4; j++) {
                due = due.add(f.alphas.get(j).multiply(answer[j]));
            }
            boolean holds = answer[4].equals(due.mod(P));
            scores.merge(asking % 4 + (holds ? " 0" : " 1"), 1, Integer::sum);
            return holds;
        }

        public int locate(int file, int keeper) {
            List<BigInteger[]> rows = heldBy(keeper, file);
            if (rows == null) {
                throw new IllegalArgumentException();
            }
            found = new ArrayList<>();
            for (int row = 0; row < rows.size(); row++) {
                if (!good(files.get(file), row, rows.get(row))) {
                    found.add(row);
                }
            }
            return found.size();
        }

        public int found(int k) {
            return k < 0 || k >= found.size() ? -1 : found.get(k);
        }

        public int repair(int file, int keeper) {
            if (!isFile(file) || keeper < 0 || keeper > 3) {
                throw new IndexOutOfBoundsException();
            }
            List<BigInteger[]> now = rowsOf(files.get(file), gather(file));
            List<BigInteger[]> before = held.put(4 * file + keeper, now);
            int again = 0;
            for (int row = 0; row < now.size(); row++) {
                again += before == null || !Arrays.equals(before.get(row), now.get(row)) ? 1 : 0;
            }
            scores.merge(keeper + " 2", again, Integer::sum);
            return again;
        }

        public int fetch(int file) {
            if (!isFile(file)) {
                throw new IndexOutOfBoundsException();
            }
            fetched = Arrays.asList(gather(file)).subList(0, files.get(file).words);
            return fetched.size();
        }

        public int fetched(int i) {
            return i < 0 || i >= fetched.size() ? -1 : fetched.get(i).intValueExact();
        }

        public int made(int file, int row, int j) {
            if (!isFile(file) || row < 0 || row >= files.get(file).rows.size() || j < 0 || j > 4) {
                throw new IndexOutOfBoundsException();
            }
            return files.get(file).rows.get(row)[j].intValueExact();
        }

        public int kept(int keeper, int file, int row, int j) {
            List<BigInteger[]> rows = heldBy(keeper, file);
            if (rows == null || row < 0 || row >= rows.size() || j < 0 || j > 5) {
                throw new IllegalArgumentException();
            }
            if (rows.get(row) == null) {
                return j == 5 ? 1 : 0;
            }
            return j == 5 ? 0 : rows.get(row)[j].intValueExact();
        }

        public int rota(int t) {
            if (t < 0 || held.isEmpty()) {
                return -1;
            }
            int number = new ArrayList<>(held.keySet()).get(t % held.size());
            return 8 * (number / 4) + number % 4;
        }

        public int score(int keeper, int w) {
            if (keeper >= 0 && keeper < 4 && w >= 0 && w < 3) {
                return scores.getOrDefault(keeper + " " + w, 0);
            }
            if (keeper < 0 && isFile(-1 - keeper) && (w == 0 || w == 1)) {
                ModelFile f = files.get(-1 - keeper);
                return w == 0 ? f.words : f.rows.size();
            }
            return -1;
        }
    }
}
