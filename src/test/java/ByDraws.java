/** The years of LUSTRA by hand, with DRAWS of their own. */
final class ByDraws {
    private static long drawn;
    private static int greed;

    private ByDraws() {
    }

    static void start(int seed) {
        drawn = seed;
    }

    static int draw(int below) {
        drawn = (drawn * 1103515245L + 12345L) % 2147483648L;
        return (int) (drawn / 65536 % below);
    }

    /** One year of LUSTRA by hand. */
    private static void liveYear(TaxFarm x, int[] odds) {
        if (x.holder() < 0) {
            for (int i = 0; i < x.count(1); i++) {
                x.bid(i, draw(100));
            }
            x.award();
        }
        if (x.holder() < 0 || odds.length == 0) {
            return;
        }
        int sum = 0;
        for (int odd : odds) {
            sum += odd;
        }
        int rest = draw(sum);
        int harvest = 0;
        while (rest >= odds[harvest]) {
            rest -= odds[harvest];
            harvest++;
        }
        x.year(harvest);
        for (int i = 0; i < x.count(0); i++) {
            int choice = draw(3);
            if (choice == 2) {
                x.spare(i);
            } else {
                greed += Math.max(0, x.take(i, choice == 0 ? x.town(i, 6) : x.town(i, 2) / 2));
            }
        }
        if (x.count(5) == 5) {
            x.sue();
            x.close();
        }
    }

    /** What LUSTRA answers is what so many years by hand come to; odds are those of the HARVESTS. */
    static void compare(TaxFarm x, int[] odds, int seed, int years) {
        int[] told = new int[3];
        for (int what = 0; what < 3; what++) {
            told[what] = x.lustra(seed, years, what);
        }
        int before = x.count(7);
        start(seed);
        greed = 0;
        for (int i = 0; i < years; i++) {
            liveYear(x, odds);
        }
        String call = "lustra(" + seed + ", " + years + ", ";
        Check.due(call + "0)", x.count(7) - before, told[0]);
        Check.due(call + "1)", greed, told[1]);
        Check.due(call + "2)", x.count(8), told[2]);
    }
}
