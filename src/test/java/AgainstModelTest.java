import java.math.BigDecimal;
import java.math.RoundingMode;
import java.util.ArrayDeque;
import java.util.ArrayList;
import java.util.Deque;
import java.util.HashSet;
import java.util.List;
import java.util.Random;
import java.util.Set;
import java.util.TreeSet;

/**
 * Long runs of calls, from seeds that are always the same, against a model that follows the
 * document's words one by one and shares no way of working with the program.
 */
public final class AgainstModelTest {
    private static final Due due = new Due();
    private static final int RUNS = 400;
    private static final int CALLS = 512;

    public static void main(String[] args) {
        for (int run = 0; run < RUNS && due.wrong() < 20; run++) {
            runOnce(run);
        }
        due.end();
    }

    private static void runOnce(int run) {
        Random random = new Random(run);
        int dies = 1 + run % 10;
        int wears = 1 + run / 10 % 6;
        int wild = run % 4 == 0 ? 5 : 40;
        int removing = 1 + run % 3;
        DieStudy study = new DieStudy();
        Model model = new Model();
        for (int call = 0; call < CALLS && due.wrong() < 20; call++) {
            int method = chooseMethod(random, removing);
            int[] a = arguments(random, method, dies, wears, wild);
            String where = "run " + run + ", call " + call + ": " + NAMES[method] + java.util.Arrays.toString(a);
            due.is(where, ask(study, method, a), model.ask(method, a));
        }
    }

    private static final String[] NAMES = {"addSpecimen", "removeSpecimen", "setWear", "mergeDies", "undo",
        "specimenCount", "dieOf", "dieCount", "frequency", "meanWearBits", "coupleCount", "coupleAt",
        "componentCount", "componentSize", "cycleRank", "bridgeCount", "isBridge", "compareCouples",
        "isConsistent", "coupleInOrder", "generation", "singletons", "coverageEstimate", "frequencyEstimate"};
    /** The kinds of each method's arguments: d die, w wear, s specimen, i side, c couple. */
    private static final String[] KINDS = {"ddww", "s", "siw", "idd", "", "", "si", "i", "id", "id", "", "c",
        "", "id", "", "", "c", "cc", "", "c", "c", "i", "i", "i"};

    private static int chooseMethod(Random random, int removing) {
        int dice = random.nextInt(24);
        if (dice < 6) {
            return 0;
        }
        if (dice < 6 + removing) {
            return 1 + random.nextInt(4);
        }
        return 5 + random.nextInt(NAMES.length - 5);
    }

    private static int[] arguments(Random random, int method, int dies, int wears, int wild) {
        String kinds = KINDS[method];
        int[] a = new int[kinds.length()];
        for (int i = 0; i < a.length; i++) {
            if (random.nextInt(wild) == 0) {
                int[] edges = {-1, 2, 5, 6, 9, 10, 23, 24, Integer.MIN_VALUE, Integer.MAX_VALUE, random.nextInt()};
                a[i] = edges[random.nextInt(edges.length)];
            } else {
                a[i] = switch (kinds.charAt(i)) {
                    case 'd' -> random.nextInt(dies);
                    case 'w' -> random.nextInt(wears);
                    case 'i' -> random.nextInt(2);
                    case 's' -> random.nextInt(24);
                    default -> random.nextInt(1 + random.nextInt(24));
                };
            }
        }
        return a;
    }

    private static int ask(DieStudy x, int method, int[] a) {
        return switch (NAMES[method]) {
            case "addSpecimen" -> x.addSpecimen(a[0], a[1], a[2], a[3]);
            case "removeSpecimen" -> x.removeSpecimen(a[0]);
            case "setWear" -> x.setWear(a[0], a[1], a[2]);
            case "mergeDies" -> x.mergeDies(a[0], a[1], a[2]);
            case "undo" -> x.undo();
            case "specimenCount" -> x.specimenCount();
            case "dieOf" -> x.dieOf(a[0], a[1]);
            case "dieCount" -> x.dieCount(a[0]);
            case "frequency" -> x.frequency(a[0], a[1]);
            case "meanWearBits" -> x.meanWearBits(a[0], a[1]);
            case "coupleCount" -> x.coupleCount();
            case "coupleAt" -> x.coupleAt(a[0]);
            case "componentCount" -> x.componentCount();
            case "componentSize" -> x.componentSize(a[0], a[1]);
            case "cycleRank" -> x.cycleRank();
            case "bridgeCount" -> x.bridgeCount();
            case "isBridge" -> x.isBridge(a[0]);
            case "compareCouples" -> x.compareCouples(a[0], a[1]);
            case "isConsistent" -> x.isConsistent();
            case "coupleInOrder" -> x.coupleInOrder(a[0]);
            case "generation" -> x.generation(a[0]);
            case "singletons" -> x.singletons(a[0]);
            case "coverageEstimate" -> x.coverageEstimate(a[0]);
            default -> x.frequencyEstimate(a[0]);
        };
    }

    private record Coin(int[] die, int[] wear) {
        Coin copy() {
            return new Coin(die.clone(), wear.clone());
        }
    }

    private static final class Model {
        private List<Coin> coins = new ArrayList<>();
        private final Deque<List<Coin>> past = new ArrayDeque<>();

        int ask(int method, int[] a) {
            for (int i = 0; i < a.length; i++) {
                if (!inRange(KINDS[method].charAt(i), a[i])) {
                    return -1;
                }
            }
            return method < 5 ? edit(method, a) : method < 10 ? askDies(method, a)
                    : method < 18 ? askLinks(method, a) : method < 21 ? askOrder(method, a) : estimate(method, a[0]);
        }

        private boolean inRange(char kind, int value) {
            int end = switch (kind) {
                case 'd' -> 10;
                case 'w' -> 6;
                case 'i' -> 2;
                case 's' -> coins.size();
                default -> Integer.MAX_VALUE;
            };
            return value >= 0 && (value < end || kind == 'c');
        }

        private void remember() {
            List<Coin> copy = new ArrayList<>();
            for (Coin coin : coins) {
                copy.add(coin.copy());
            }
            past.addLast(copy);
            if (past.size() > 5) {
                past.removeFirst();
            }
        }

        private int edit(int method, int[] a) {
            if (method == 0) {
                if (coins.size() == 24) {
                    return -2;
                }
                remember();
                coins.add(new Coin(new int[] {a[0], a[1]}, new int[] {a[2], a[3]}));
                return coins.size() - 1;
            }
            if (method == 1) {
                remember();
                coins.remove(a[0]);
                return coins.size();
            }
            if (method == 2) {
                remember();
                int previous = coins.get(a[0]).wear[a[1]];
                coins.get(a[0]).wear[a[1]] = a[2];
                return previous;
            }
            if (method == 3) {
                List<Coin> struck = coins.stream().filter(coin -> coin.die[a[0]] == a[1]).toList();
                if (struck.isEmpty()) {
                    return -3;
                }
                remember();
                struck = coins.stream().filter(coin -> coin.die[a[0]] == a[1]).toList();
                struck.forEach(coin -> coin.die[a[0]] = a[2]);
                return a[1] == a[2] ? 0 : struck.size();
            }
            if (past.isEmpty()) {
                return -3;
            }
            coins = past.removeLast();
            return past.size();
        }

        private List<Coin> struckWith(int side, int die) {
            return coins.stream().filter(coin -> coin.die[side] == die).toList();
        }

        private int knownDies(int side) {
            return (int) coins.stream().map(coin -> coin.die[side]).distinct().count();
        }

        private int askDies(int method, int[] a) {
            if (method == 5) {
                return coins.size();
            }
            if (method == 6) {
                return coins.get(a[0]).die[a[1]];
            }
            if (method == 7) {
                return knownDies(a[0]);
            }
            List<Coin> struck = struckWith(a[0], a[1]);
            if (method == 8) {
                return struck.size();
            }
            if (struck.isEmpty()) {
                return -3;
            }
            int sum = struck.stream().mapToInt(coin -> coin.wear[a[0]]).sum();
            return Float.floatToIntBits((float) sum / (float) struck.size());
        }

        private List<Integer> couples() {
            Set<Integer> pairs = new TreeSet<>();
            for (Coin coin : coins) {
                pairs.add(10 * coin.die[0] + coin.die[1]);
            }
            return new ArrayList<>(pairs);
        }

        /** The dies that can be reached from one, by going on from each die found. Reverse dies are 10 and up. */
        private static Set<Integer> reach(int start, List<Integer> edges) {
            Set<Integer> found = new HashSet<>(Set.of(start));
            Deque<Integer> open = new ArrayDeque<>(found);
            while (!open.isEmpty()) {
                int at = open.removeFirst();
                for (int pair : edges) {
                    int obverse = pair / 10;
                    int reverse = 10 + pair % 10;
                    int other = at == obverse ? reverse : at == reverse ? obverse : at;
                    if (found.add(other)) {
                        open.addLast(other);
                    }
                }
            }
            return found;
        }

        private int components(List<Integer> edges) {
            Set<Set<Integer>> all = new HashSet<>();
            for (Coin coin : coins) {
                all.add(reach(coin.die[0], edges));
                all.add(reach(10 + coin.die[1], edges));
            }
            return all.size();
        }

        private boolean bridge(int couple) {
            List<Integer> others = couples();
            others.remove(couple);
            return components(others) > components(couples());
        }

        private int askLinks(int method, int[] a) {
            List<Integer> couples = couples();
            int n = couples.size();
            if (method == 11 || method == 16) {
                return a[0] >= n ? -3 : method == 11 ? couples.get(a[0]) : bridge(a[0]) ? 1 : 0;
            }
            if (method == 17) {
                return a[0] >= n || a[1] >= n || a[0] == a[1] ? -1
                        : earlier(a[0], a[1]) ? 1 : earlier(a[1], a[0]) ? 2 : 0;
            }
            if (method == 13) {
                return struckWith(a[0], a[1]).isEmpty() ? -3 : reach(10 * a[0] + a[1], couples).size();
            }
            if (method == 15) {
                int bridges = 0;
                for (int i = 0; i < n; i++) {
                    bridges += bridge(i) ? 1 : 0;
                }
                return bridges;
            }
            return method == 10 ? n : method == 12 ? components(couples)
                    : n - knownDies(0) - knownDies(1) + components(couples);
        }

        private boolean earlier(int first, int second) {
            List<Integer> couples = couples();
            int a = couples.get(first);
            int b = couples.get(second);
            if (a == b || a / 10 != b / 10 && a % 10 != b % 10) {
                return false;
            }
            int side = a / 10 == b / 10 ? 0 : 1;
            int[] wearA = wears(a, side);
            int[] wearB = wears(b, side);
            return wearA[wearA.length - 1] <= wearB[0] && wearA[0] < wearB[wearB.length - 1];
        }

        private int[] wears(int pair, int side) {
            return coins.stream().filter(coin -> 10 * coin.die[0] + coin.die[1] == pair)
                    .mapToInt(coin -> coin.wear[side]).sorted().toArray();
        }

        private boolean[][] earlierTable() {
            int n = couples().size();
            boolean[][] table = new boolean[n][n];
            for (int i = 0; i < n; i++) {
                for (int j = 0; j < n; j++) {
                    table[i][j] = earlier(i, j);
                }
            }
            return table;
        }

        /** No couple comes back to itself in the closure of the relation. */
        private static boolean consistent(boolean[][] table) {
            int n = table.length;
            boolean[][] way = new boolean[n][];
            for (int i = 0; i < n; i++) {
                way[i] = table[i].clone();
            }
            for (int k = 0; k < n; k++) {
                for (int i = 0; i < n; i++) {
                    for (int j = 0; j < n; j++) {
                        way[i][j] |= way[i][k] && way[k][j];
                    }
                }
            }
            for (int i = 0; i < n; i++) {
                if (way[i][i]) {
                    return false;
                }
            }
            return true;
        }

        private static int generationOf(int couple, boolean[][] table) {
            int generation = 0;
            for (int i = 0; i < table.length; i++) {
                if (table[i][couple]) {
                    generation = Math.max(generation, 1 + generationOf(i, table));
                }
            }
            return generation;
        }

        private static List<Integer> order(boolean[][] table) {
            Set<Integer> open = new TreeSet<>();
            for (int i = 0; i < table.length; i++) {
                open.add(i);
            }
            List<Integer> order = new ArrayList<>();
            while (!open.isEmpty()) {
                int next = open.stream().filter(b -> open.stream().noneMatch(a -> table[a][b])).findFirst().get();
                order.add(next);
                open.remove(next);
            }
            return order;
        }

        private int askOrder(int method, int[] a) {
            boolean[][] table = earlierTable();
            if (method == 18) {
                return consistent(table) ? 1 : 0;
            }
            if (a[0] >= table.length) {
                return -3;
            }
            if (!consistent(table)) {
                return -4;
            }
            return method == 19 ? order(table).get(a[0]) : generationOf(a[0], table);
        }

        private int estimate(int method, int side) {
            int n = coins.size();
            int d = knownDies(side);
            int s = 0;
            for (int die = 0; die < 10; die++) {
                s += struckWith(side, die).size() == 1 ? 1 : 0;
            }
            if (method == 21) {
                return s;
            }
            if (method == 22) {
                return s == n ? -3 : thousandths(n * d, n - s);
            }
            if (n < 2 || n == d) {
                return -3;
            }
            return thousandths(n * d * 1000, n < 2 * d ? 1124 * n - 1016 * d
                    : n < 3 * d ? 1069 * n - 843 * d : 1016 * n - 197 * d);
        }

        private static int thousandths(int dividend, int divisor) {
            return new BigDecimal(dividend).movePointRight(3)
                    .divide(new BigDecimal(divisor), 0, RoundingMode.FLOOR).intValueExact();
        }
    }
}
