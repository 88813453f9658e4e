import java.util.List;

/** What is done by hand, for PlainFarm: written anew by the document. */
final class PlainYears {
    private final PlainText told;
    final int[] means;
    final int[] left;
    final int[] grown;
    final int[] taken;
    final int[] debt;
    final boolean[] spared;
    private final int[] kinds;
    final int[] coins;
    final int[] bid;
    final boolean[] bribed;
    int holder = -1;
    int had = 0;
    int years = 0;
    int greed = 0;
    int state = 0;
    /** Set by what could be done. */
    boolean done = false;
    private long g = 0;

    private PlainYears(PlainText told, int towns) {
        this.told = told;
        int companies = told.rows.get("company").size();
        means = new int[towns];
        left = new int[towns];
        grown = new int[towns];
        taken = new int[towns];
        debt = new int[towns];
        spared = new boolean[towns];
        kinds = new int[towns];
        coins = new int[companies];
        bid = new int[companies];
        bribed = new boolean[told.rows.get("juror").size()];
    }

    PlainYears(PlainText told) {
        this(told, told.rows.get("town").size());
        for (int i = 0; i < means.length; i++) {
            kinds[i] = told.rows.get("town").get(i)[0];
            means[i] = told.rows.get("town").get(i)[1];
        }
        for (int i = 0; i < coins.length; i++) {
            coins[i] = told.rows.get("company").get(i)[1];
        }
    }

    PlainYears(PlainYears from) {
        this(from.told, from.means.length);
        for (int i = 0; i < means.length; i++) {
            from.copyTown(i, this, i);
        }
        for (int i = 0; i < coins.length; i++) {
            coins[i] = from.coins[i];
            bid[i] = from.bid[i];
        }
        for (int i = 0; i < bribed.length; i++) {
            bribed[i] = from.bribed[i];
        }
        holder = from.holder;
        had = from.had;
        years = from.years;
        greed = from.greed;
        state = from.state;
    }

    private void copyTown(int town, PlainYears to, int place) {
        to.kinds[place] = kinds[town];
        to.means[place] = means[town];
        to.left[place] = left[town];
        to.grown[place] = grown[town];
        to.taken[place] = taken[town];
        to.debt[place] = debt[town];
        to.spared[place] = spared[town];
    }

    /** One TOWN alone, held by somebody. */
    PlainYears lone(int town) {
        PlainYears lone = new PlainYears(told, 1);
        copyTown(town, lone, 0);
        return lone;
    }

    /** A YEAR of a lone TOWN in which so many parts of its crop are TAKEN at once: how much. */
    int takeShare(int harvest, int share, int parts) {
        grow(harvest);
        int amount = left[0] * share / parts;
        left[0] -= amount;
        taken[0] = amount;
        harm(0, Math.max(0, amount - tithe(grown[0])));
        return amount;
    }

    private int[] row(String what, int index) {
        return told.rows.get(what).get(index);
    }

    int tithe(int crop) {
        return crop * told.once.getOrDefault("tithe", 10) / 100;
    }

    private static int between(long value, int least, int most) {
        return (int) (value < least ? least : value > most ? most : value);
    }

    /** Answers as the face does, a boolean as 1 or 0; refused if it can't be. */
    int deed(String word, int who, int amount, int refused) {
        if (!can(word, who, amount)) {
            return refused;
        }
        done = true;
        switch (word) {
            case "bid":
                bid[who] = amount;
                return 1;
            case "award": return award();
            case "year": return year(who);
            case "take": return take(who, amount);
            case "lend":
                coins[holder] -= amount;
                means[who] = between(means[who] + amount, 0, 9999);
                debt[who] = between(debt[who] + amount, 0, 9999);
                return debt[who];
            case "call":
                coins[holder] += amount;
                means[who] -= amount;
                debt[who] -= amount;
                return debt[who];
            case "spare": return spare(who);
            case "bribe":
                coins[holder] -= row("juror", who)[1];
                bribed[who] = true;
                return 1;
            case "sue": return sue();
            default:
                holder = -1;
                return 1;
        }
    }

    private boolean can(String word, int who, int amount) {
        boolean town = who >= 0 && who < means.length;
        boolean some = amount >= 1 && amount <= 9999;
        switch (word) {
            case "bid": return holder < 0 && who >= 0 && who < coins.length && amount >= 0 && amount <= 9999 && amount <= coins[who];
            case "award": return holder < 0 && highest() > 0;
            case "year": return holder >= 0 && had < 5 && who >= 0 && who < told.rows.get("harvest").size();
            case "take": return holder >= 0 && town && some && !spared[who] && amount <= left[who];
            case "lend": return holder >= 0 && town && some && amount <= coins[holder];
            case "call": return holder >= 0 && town && some && amount <= debt[who] && amount <= means[who];
            case "spare": return holder >= 0 && town && !spared[who];
            case "bribe": return holder >= 0 && who >= 0 && who < bribed.length && !bribed[who] && row("juror", who)[1] <= coins[holder];
            case "sue": return holder >= 0;
            default: return holder >= 0 && had == 5;
        }
    }

    private int highest() {
        int highest = 0;
        for (int one : bid) {
            highest = Math.max(highest, one);
        }
        return highest;
    }

    private int award() {
        int first = 0;
        while (bid[first] < highest()) {
            first++;
        }
        int sort = row("company", first)[0];
        if (sort != 1) {
            int price = sort == 2 ? bid[first] * 3 / 4 : bid[first];
            holder = first;
            coins[first] -= price;
            state += price;
        }
        java.util.Arrays.fill(bid, 0);
        java.util.Arrays.fill(bribed, false);
        had = 0;
        greed = 0;
        return holder;
    }

    private void grow(int harvest) {
        for (int i = 0; i < means.length; i++) {
            means[i] = between(means[i] + left[i] / 2, 0, 9999);
            left[i] = 0;
        }
        for (int i = 0; i < means.length; i++) {
            debt[i] = between(told.owes.of(means[i], left[i], debt[i]), 0, 9999);
        }
        for (int i = 0; i < means.length; i++) {
            grown[i] = between(means[i] * row("harvest", harvest)[0] / 100 + (kinds[i] == 3 ? 10 : 0), 0, 9999);
            left[i] = grown[i];
            taken[i] = 0;
            spared[i] = false;
        }
    }

    private int year(int harvest) {
        grow(harvest);
        had++;
        years++;
        int sum = 0;
        for (int crop : grown) {
            sum += crop;
        }
        return sum;
    }

    private void harm(int town, int added) {
        int less = kinds[town] == 2 ? added : kinds[town] == 1 ? added / 4 : added / 2;
        means[town] = Math.max(0, means[town] - less);
    }

    private int take(int town, int amount) {
        int added = 0;
        for (int coin = 0; coin < amount; coin++) {
            taken[town]++;
            added += taken[town] > tithe(grown[town]) ? 1 : 0;
        }
        left[town] -= amount;
        coins[holder] += amount;
        greed += added;
        harm(town, added);
        return added;
    }

    private int spare(int town) {
        long gift = Math.max(0, told.alone.of(means[town], left[town], debt[town]));
        int given = between(kinds[town] == 1 ? 2 * gift : gift, 0, means[town]);
        means[town] -= given;
        coins[holder] += given;
        spared[town] = true;
        return given;
    }

    boolean letsGo(int juror) {
        int bar = told.once.getOrDefault("bar", 0) * (row("company", holder)[0] == 3 ? 2 : 1);
        return row("juror", juror)[0] == holder || bribed[juror] || greed <= bar;
    }

    private int sue() {
        int balance = 0;
        for (int i = 0; i < bribed.length; i++) {
            balance += letsGo(i) ? 1 : -1;
        }
        if (balance < 0) {
            int fine = Math.min(2 * greed, coins[holder]);
            coins[holder] -= fine;
            state += fine;
            holder = -1;
        }
        greed = 0;
        java.util.Arrays.fill(bribed, false);
        return balance < 0 ? 0 : 1;
    }

    /** The mean of the tithes of all TOWNS by the odds of a set of HARVESTS; 0 of none. */
    int worth(int set) {
        int sum = 0;
        int odds = 0;
        List<int[]> harvests = told.rows.get("harvest");
        for (int i = 0; i < harvests.size(); i++) {
            if ((set >> i & 1) == 1) {
                PlainYears tried = new PlainYears(this);
                tried.grow(i);
                for (int crop : tried.grown) {
                    sum += tithe(crop) * harvests.get(i)[1];
                }
                odds += harvests.get(i)[1];
            }
        }
        return odds == 0 ? 0 : sum / odds;
    }

    private int draw(int below) {
        g = (g * 1103515245L + 12345L) % 2147483648L;
        return (int) (g / 65536 % below);
    }

    /** Lives so many years by draws: GREED of all TAKES. */
    int lustra(int seed, int times) {
        g = seed;
        int all = 0;
        List<int[]> harvests = told.rows.get("harvest");
        for (int i = 0; i < times; i++) {
            if (holder < 0) {
                for (int company = 0; company < coins.length; company++) {
                    deed("bid", company, draw(100), -9);
                }
                deed("award", 0, 0, -9);
            }
            if (holder >= 0 && !harvests.isEmpty()) {
                int drawn = draw(harvests.stream().mapToInt(row -> row[1]).sum());
                int harvest = 0;
                for (int sum = harvests.get(0)[1]; sum <= drawn; sum += harvests.get(harvest)[1]) {
                    harvest++;
                }
                deed("year", harvest, 0, -9);
                for (int town = 0; town < means.length; town++) {
                    all += visit(town, draw(3));
                }
                if (had == 5) {
                    deed("sue", 0, 0, -9);
                    deed("close", 0, 0, -9);
                }
            }
        }
        return all;
    }

    private int visit(int town, int choice) {
        if (choice == 2) {
            deed("spare", town, 0, 0);
            return 0;
        }
        return deed("take", town, choice == 0 ? tithe(grown[town]) : left[town] / 2, 0);
    }
}
