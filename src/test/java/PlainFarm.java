import java.util.ArrayDeque;
import java.util.ArrayList;
import java.util.Arrays;
import java.util.Deque;
import java.util.HashMap;
import java.util.List;
import java.util.Map;
import java.util.TreeMap;

/** A second TaxFarm, written anew by the document and not for speed, to compare the first one with. */
final class PlainFarm {
    private StringBuilder tape = new StringBuilder();
    private PlainText told = PlainText.nothing();
    private List<String[]> lines = new ArrayList<>();
    private PlainYears now = new PlainYears(told);
    private final Deque<PlainYears> elder = new ArrayDeque<>();
    private TreeMap<Integer, Integer> tales = new TreeMap<>();
    private final Map<Integer, PlainYears> marks = new HashMap<>();
    private final Map<Integer, TreeMap<Integer, Integer>> markTales = new HashMap<>();

    private int size(String what) {
        return told.rows.get(what).size();
    }

    private boolean has(String what, int index) {
        return index >= 0 && index < size(what);
    }

    int feed(long... words) {
        for (long word : words) {
            for (byte sign : java.nio.ByteBuffer.allocate(8).putLong(word).array()) {
                if ((sign == 10 || sign >= 32 && sign <= 126) && tape.length() < 1000) {
                    tape.append((char) sign);
                }
            }
        }
        return tape.length();
    }

    private PlainText takeTape() {
        PlainText text = new PlainText(tape.toString());
        tape = new StringBuilder();
        return text;
    }

    int province() {
        PlainText text = takeTape();
        try {
            text.readProvince();
        } catch (PlainText.Fault fault) {
            return fault.number;
        }
        told = text;
        lines = new ArrayList<>();
        now = new PlainYears(told);
        elder.clear();
        tales.clear();
        marks.clear();
        return 0;
    }

    int past() {
        try {
            lines = takeTape().readPast(told);
        } catch (PlainText.Fault fault) {
            return fault.number;
        }
        return 0;
    }

    int town(int town, int what) {
        if (!has("town", town) || what < 0 || what > 6) {
            return -1;
        }
        int[] answers = {told.rows.get("town").get(town)[0], now.means[town], now.left[town], now.debt[town],
            now.taken[town], now.spared[town] ? 1 : 0, now.tithe(now.grown[town])};
        return answers[what];
    }

    int company(int company, int what) {
        if (!has("company", company) || what < 0 || what > 2) {
            return -1;
        }
        return new int[] {told.rows.get("company").get(company)[0], now.coins[company], now.bid[company]}[what];
    }

    int juror(int juror, int what) {
        if (!has("juror", juror) || what < 0 || what > 3) {
            return -2;
        }
        int[] row = told.rows.get("juror").get(juror);
        int would = now.holder < 0 ? -1 : now.letsGo(juror) ? 1 : 0;
        return new int[] {row[0], row[1], now.bribed[juror] ? 1 : 0, would}[what];
    }

    int holder() {
        return now.holder;
    }

    /** A deed by hand; refused tells the answer by which nothing was done. */
    int deed(String word, int who, int amount, int refused) {
        PlainYears next = new PlainYears(now);
        int answer = next.deed(word, who, amount, refused);
        if (next.done) {
            elder.push(now);
            now = next;
            if (elder.size() > 16) {
                elder.removeLast();
            }
        }
        return answer;
    }

    int undo() {
        if (elder.isEmpty()) {
            return 0;
        }
        now = elder.pop();
        return 1;
    }

    int judged(int what) {
        if (what < 0 || what > 2) {
            return -2;
        }
        PlainYears years = new PlainYears(told);
        int first = -1;
        for (int i = 0; i < lines.size(); i++) {
            String[] line = lines.get(i);
            years.done = false;
            years.deed(line[0], Integer.parseInt(line[1]), Integer.parseInt(line[2]), -9);
            if (!years.done && first < 0) {
                first = i;
            }
        }
        return new int[] {first, years.state, Arrays.stream(years.means).sum()}[what];
    }

    int worth(int set) {
        return set <= 0 || set >= 1 << size("harvest") ? -1 : now.worth(set);
    }

    int news() {
        int all = (1 << size("harvest")) - 1;
        int best = -1;
        int most = -1;
        for (int i = 0; i < size("harvest") && size("harvest") > 1; i++) {
            int change = Math.abs(now.worth(all - (1 << i)) - now.worth(all));
            if (change > most) {
                most = change;
                best = i;
            }
        }
        return best;
    }

    int gather(int town, int harvest, int years, int what) {
        if (!has("town", town) || !has("harvest", harvest) || years < 1 || years > 5 || what < 0 || what > years + 1) {
            return -1;
        }
        int[] best = null;
        int rows = (int) Math.round(Math.pow(5, years));
        for (int row = 0; row < rows; row++) {
            int[] tried = new int[years + 2];
            for (int i = 0, rest = row; i < years; i++, rest /= 5) {
                tried[years + 1 - i] = rest % 5;
            }
            PlainYears lone = now.lone(town);
            for (int i = 0; i < years; i++) {
                tried[0] += lone.takeShare(harvest, tried[2 + i], 4);
            }
            tried[1] = lone.means[0];
            if (best == null || tried[0] > best[0] || tried[0] == best[0] && tried[1] > best[1]) {
                best = tried;
            }
        }
        return best[what];
    }

    int rate(int town, int harvest, int years) {
        if (!has("town", town) || !has("harvest", harvest) || years < 1 || years > 20) {
            return -1;
        }
        int highest = -1;
        for (int rate = 0; rate <= 100; rate++) {
            PlainYears lone = now.lone(town);
            for (int i = 0; i < years; i++) {
                lone.takeShare(harvest, rate, 100);
            }
            if (lone.means[0] >= now.means[town]) {
                highest = rate;
            }
        }
        return highest;
    }

    int free(int what) {
        if (what < 0 || what > 1 || now.holder < 0) {
            return -1;
        }
        int fewest = Integer.MAX_VALUE;
        int best = -1;
        for (int set = 0; set < 1 << size("juror"); set++) {
            PlainYears tried = new PlainYears(now);
            int price = 0;
            boolean needed = true;
            for (int i = 0; i < size("juror"); i++) {
                if ((set >> i & 1) == 1) {
                    needed &= !now.letsGo(i);
                    tried.bribed[i] = true;
                    price += told.rows.get("juror").get(i)[1];
                }
            }
            if (needed && price < fewest && tried.deed("sue", 0, 0, -1) == 1) {
                fewest = price;
                best = set;
            }
        }
        return what == 0 ? fewest : best;
    }

    int agree(int company, int other) {
        if (!has("company", company) || !has("company", other) || company == other || now.holder >= 0) {
            return -1;
        }
        int first = Math.min(company, other);
        int second = Math.max(company, other);
        int higher = now.bid[second] > now.bid[first] ? second : first;
        PlainYears tried = new PlainYears(now);
        if (tried.deed("award", 0, 0, -2) != higher) {
            return 0;
        }
        int most = 0;
        for (int i = 0; i < size("company"); i++) {
            most = i == first || i == second ? most : Math.max(most, now.bid[i]);
        }
        return Math.max(0, now.bid[higher] - (most + 1));
    }

    int tale(int company, int worth) {
        if (!has("company", company) || worth < 0 || worth > 99999) {
            return 0;
        }
        tales.put(company, worth);
        return 1;
    }

    private List<Integer> sets(int worth) {
        List<Integer> sets = new ArrayList<>();
        for (int set = 1; set < 1 << size("harvest"); set++) {
            if (now.worth(set) == worth) {
                sets.add(set);
            }
        }
        return sets;
    }

    int knew(int company, int what) {
        if (!tales.containsKey(company) || what < 0 || what > 2) {
            return -1;
        }
        List<Integer> sets = sets(tales.get(company));
        if (what == 0 || sets.isEmpty()) {
            return what == 0 ? 0 + sets.size() : -1;
        }
        int common = -1;
        int any = 0;
        for (int set : sets) {
            common &= set;
            any |= set;
        }
        return what == 1 ? common : any;
    }

    int secret() {
        int left = (1 << size("harvest")) - 1;
        for (int worth : tales.values()) {
            int any = 0;
            for (int set : sets(worth)) {
                any |= set;
            }
            left &= any;
        }
        return left;
    }

    int next() {
        if (tales.isEmpty()) {
            return -1;
        }
        List<Integer> sets = sets(tales.firstEntry().getValue());
        int least = sets.size();
        int best = -1;
        for (int town = 0; town < size("town"); town++) {
            PlainYears richer = new PlainYears(now);
            richer.means[town] = Math.min(9999, richer.means[town] + 1);
            Map<Integer, Integer> alike = new HashMap<>();
            for (int set : sets) {
                alike.merge(richer.worth(set), 1, Integer::sum);
            }
            int most = alike.values().stream().mapToInt(i -> i).max().orElse(0);
            if (most < least) {
                least = most;
                best = town;
            }
        }
        return best;
    }

    private static int got(int worth, int bid, int against) {
        return bid < against ? 0 : bid == against ? (worth - bid) / 2 : worth - bid;
    }

    long rests(int one, int other, int what) {
        List<Integer> found = new ArrayList<>();
        for (int bids = 0; bids < 100; bids++) {
            int a = bids / 10;
            int b = bids % 10;
            boolean rests = true;
            for (int c = 0; c < 10; c++) {
                rests &= got(one, c, b) <= got(one, a, b) && got(other, c, a) <= got(other, b, a);
            }
            if (rests) {
                found.add(bids);
            }
        }
        if (one < 0 || one > 9 || other < 0 || other > 9 || what < -1 || what >= found.size()) {
            return Check.THROWS;
        }
        return what == -1 ? found.size() : found.get(what);
    }

    int lustra(int seed, int years, int what) {
        if (seed < 0 || seed > 9999 || years < 1 || years > 50 || what < 0 || what > 2) {
            return -1;
        }
        PlainYears tried = new PlainYears(now);
        int greed = tried.lustra(seed, years);
        return new int[] {tried.state - now.state, greed, Arrays.stream(tried.means).sum()}[what];
    }

    int mark(int mark, boolean back) {
        if (mark < 0 || mark > 3 || back && !marks.containsKey(mark)) {
            return 0;
        }
        if (back) {
            now = new PlainYears(marks.get(mark));
            tales = new TreeMap<>(markTales.get(mark));
            elder.clear();
        } else {
            marks.put(mark, new PlainYears(now));
            markTales.put(mark, new TreeMap<>(tales));
        }
        return 1;
    }

    int count(int what) {
        int[] answers = {size("town"), size("company"), size("harvest"), size("juror"), now.years, now.had, now.greed,
            now.state, Arrays.stream(now.means).sum(), lines.size(), tales.size(), elder.size(), tape.length()};
        return what < 0 || what >= answers.length ? -1 : answers[what];
    }
}
