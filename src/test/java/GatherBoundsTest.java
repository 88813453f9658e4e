import java.util.Arrays;

/** Promises 23 and 24 at their bounds: GATHER and RATE, against a model of one TOWN. */
public final class GatherBoundsTest {
    private static final String[] KINDS = {"plain", "rich", "proud", "port"};
    private static final int[] EXTREME = {Integer.MIN_VALUE, Integer.MAX_VALUE};
    private static final String TWO = "town a plain means 90; town b rich means 80; company c honest coins 50; harvest h grows 100 odds 2;"
            + "harvest i grows 50 odds 3;";

    public static void main(String[] args) {
        othersOfGather();
        othersOfRate();
        ofNothing();
        rowsByModel();
        ratesByModel();
        fromNowOn();
        quartersAreCut();
        mostIsHad();
        mostMeansOfEqualOnes();
        firstRowOfEqualOnes();
        atMost();
        rateZeroAndHundred();
        rateOfManyYears();
        noDebts();
        nothingIsDone();
        Check.end();
    }

    /** 'NONE: others': one below and one beyond each bound. */
    private static void othersOfGather() {
        TaxFarm x = Check.farm(TWO);
        for (int town = -1; town <= 2; town++) {
            for (int harvest = -1; harvest <= 2; harvest++) {
                boolean both = town >= 0 && town < 2 && harvest >= 0 && harvest < 2;
                Check.due("gather(" + town + ", " + harvest + ", 1, 0)", both, x.gather(town, harvest, 1, 0) != -1);
            }
        }
        for (int years = -1; years <= 7; years++) {
            for (int what = -1; what <= 9; what++) {
                boolean good = years >= 1 && years <= 5 && what >= 0 && what < 2 + years;
                Check.due("gather(0, 0, " + years + ", " + what + ")", good, x.gather(0, 0, years, what) != -1);
            }
        }
        for (int wrong : EXTREME) {
            Check.due("town " + wrong, -1, x.gather(wrong, 0, 1, 0));
            Check.due("harvest " + wrong, -1, x.gather(0, wrong, 1, 0));
            Check.due("years " + wrong, -1, x.gather(0, 0, wrong, 0));
            Check.due("what " + wrong, -1, x.gather(0, 0, 5, wrong));
        }
    }

    private static void othersOfRate() {
        TaxFarm x = Check.farm(TWO);
        for (int town = -1; town <= 2; town++) {
            for (int harvest = -1; harvest <= 2; harvest++) {
                boolean both = town >= 0 && town < 2 && harvest >= 0 && harvest < 2;
                Check.due("rate(" + town + ", " + harvest + ", 1)", both, x.rate(town, harvest, 1) != -1);
            }
        }
        for (int years = -1; years <= 22; years++) {
            Check.due("rate(0, 0, " + years + ")", years >= 1 && years <= 20, x.rate(0, 0, years) != -1);
        }
        for (int wrong : EXTREME) {
            Check.due("town " + wrong, -1, x.rate(wrong, 0, 1));
            Check.due("harvest " + wrong, -1, x.rate(0, wrong, 1));
            Check.due("years " + wrong, -1, x.rate(0, 0, wrong));
        }
    }

    private static void ofNothing() {
        Check.due("gather of nothing", -1, new TaxFarm().gather(0, 0, 1, 0));
        Check.due("rate of nothing", -1, new TaxFarm().rate(0, 0, 1));
        TaxFarm x = Check.farm("town a plain means 9;");
        Check.due("without HARVESTS", -1, x.gather(0, 0, 1, 0));
        Check.due("without HARVESTS", -1, x.rate(0, 0, 1));
        TaxFarm y = Check.farm("harvest h grows 9 odds 9;");
        Check.due("without TOWNS", -1, y.gather(0, 0, 1, 0));
        Check.due("without TOWNS", -1, y.rate(0, 0, 1));
    }

    /** One TOWN by the words of YEAR and TAKE: means and what is left of its crop, and coins that were had. */
    private static int[] live(int kind, int grows, int tithe, int[] now, int[] takenOfHundred, int hundred) {
        int means = now[0];
        int left = now[1];
        int coins = 0;
        for (int part : takenOfHundred) {
            means = Math.min(9999, means + left / 2);
            int crop = Math.min(9999, means * grows / 100 + (kind == 3 ? 10 : 0));
            int taken = crop * part / hundred;
            int greed = Math.max(0, taken - crop * tithe / 100);
            means = Math.max(0, means - (kind == 2 ? greed : kind == 1 ? greed / 4 : greed / 2));
            left = crop - taken;
            coins += taken;
        }
        return new int[] {coins, means};
    }

    private static int[] row(int number, int years) {
        int[] quarters = new int[years];
        int rest = number;
        for (int i = years - 1; i >= 0; i--) {
            quarters[i] = rest % 5;
            rest /= 5;
        }
        return quarters;
    }

    private static void compareGather(String when, TaxFarm x, int kind, int grows, int tithe, int years) {
        int[] now = {x.town(0, 1), x.town(0, 2)};
        int[] best = {-1, -1};
        int[] bestRow = {};
        for (int number = 0; number < Math.round(Math.pow(5, years)); number++) {
            int[] quarters = row(number, years);
            int[] had = live(kind, grows, tithe, now, quarters, 4);
            if (had[0] > best[0] || (had[0] == best[0] && had[1] > best[1])) {
                best = had;
                bestRow = quarters;
            }
        }
        Check.due("coins " + when, best[0], x.gather(0, 0, years, 0));
        Check.due("means " + when, best[1], x.gather(0, 0, years, 1));
        for (int i = 0; i < years; i++) {
            Check.due("quarters " + when + " in YEAR " + i, bestRow[i], x.gather(0, 0, years, 2 + i));
        }
        Check.due("no more " + when, -1, x.gather(0, 0, years, 2 + years));
    }

    private static void compareRate(String when, TaxFarm x, int kind, int grows, int tithe, int years) {
        int[] now = {x.town(0, 1), x.town(0, 2)};
        int best = -1;
        for (int rate = 0; rate <= 100; rate++) {
            int[] parts = new int[years];
            Arrays.fill(parts, rate);
            if (live(kind, grows, tithe, now, parts, 100)[1] >= now[0]) {
                best = rate;
            }
        }
        Check.due("rate " + when, best, x.rate(0, 0, years));
    }

    private static String one(int kind, int means, int grows, int tithe) {
        return "town a " + KINDS[kind] + " means " + means + "; company c honest coins 9999; harvest h grows " + grows
                + " odds 1; tithe " + tithe + ";";
    }

    private static void rowsByModel() {
        int[] means = {0, 1, 7, 100, 999};
        int[] grows = {0, 1, 25, 100, 150, 300};
        for (int kind = 0; kind < 4; kind++) {
            for (int i = 0; i < 30; i++) {
                int years = 1 + i % 5;
                int tithe = new int[] {0, 10, 50, 100}[(i + kind) % 4];
                String text = one(kind, means[i % 5], grows[i % 6], tithe);
                compareGather("of " + text + " in " + years, Check.farm(text), kind, grows[i % 6], tithe, years);
            }
        }
    }

    private static void ratesByModel() {
        int[] means = {0, 1, 7, 100, 999};
        int[] grows = {0, 1, 25, 100, 150, 300};
        int[] years = {1, 2, 5, 19, 20};
        for (int kind = 0; kind < 4; kind++) {
            for (int i = 0; i < 60; i++) {
                int tithe = new int[] {0, 10, 50, 100}[(i + kind) % 4];
                String text = one(kind, means[i % 5], grows[i % 6], tithe);
                compareRate("of " + text + " in " + years[i / 7 % 5], Check.farm(text), kind, grows[i % 6], tithe, years[i / 7 % 5]);
            }
        }
    }

    /** 'from now on': half of what it has of its crop now is added first; held or not, spared or not, had or not. */
    private static void fromNowOn() {
        for (int left = 0; left <= 60; left += 15) {
            TaxFarm x = Check.held(one(0, 90, 100, 10), 0, 1);
            x.year(0);
            if (left < 60) {
                x.take(0, 90 - left);
            }
            compareGather("with " + left, x, 0, 100, 10, 2);
            compareRate("with " + left, x, 0, 100, 10, 3);
            int coins = x.gather(0, 0, 2, 0);
            int rate = x.rate(0, 0, 3);
            x.spare(0);
            compareGather("spared", x, 0, 100, 10, 2);
            x.undo();
            x.sue();
            Check.due("sued", coins, x.gather(0, 0, 2, 0));
            Check.due("sued", rate, x.rate(0, 0, 3));
        }
        TaxFarm y = Check.held(one(0, 90, 0, 10), 0, 1);
        for (int i = 0; i < 5; i++) {
            y.year(0);
        }
        Check.due("no YEAR can be had", 0, y.gather(0, 0, 5, 0));
        y.close();
        Check.due("nobody holds it", 90, y.gather(0, 0, 5, 1));
    }

    /** '0 to 4 quarters of its crop (of all of it, cut)'. */
    private static void quartersAreCut() {
        int[] crops = {1, 2, 3, 4, 5, 7};
        for (int crop : crops) {
            TaxFarm x = Check.farm(one(2, crop, 100, 0));
            Check.due("all of " + crop, crop, x.gather(0, 0, 1, 0));
            Check.due("four quarters", 4, x.gather(0, 0, 1, 2));
            Check.due("means", 0, x.gather(0, 0, 1, 1));
        }
    }

    private static void mostIsHad() {
        TaxFarm x = Check.farm(one(2, 100, 300, 10));
        Check.due("in one YEAR all", 300, x.gather(0, 0, 1, 0));
        Check.due("with nothing left", 0, x.gather(0, 0, 1, 1));
        Check.due("in two YEARS the first is spared", 0, x.gather(0, 0, 2, 2));
        Check.due("for all of the second", 750, x.gather(0, 0, 2, 0));
        Check.due("all of the second", 4, x.gather(0, 0, 2, 3));
    }

    /** 'of equal ones the most means at last (without what is left of the last crop)'. */
    private static void mostMeansOfEqualOnes() {
        for (int kind = 0; kind < 4; kind++) {
            for (int means = 0; means <= 12; means++) {
                compareGather("of " + means, Check.farm(one(kind, means, 34, 0)), kind, 34, 0, 3);
                compareGather("of " + means, Check.farm(one(kind, means, 120, 30)), kind, 120, 30, 3);
            }
        }
    }

    /** 'of equal ones the first row': the fewest quarters in the first YEAR by which all is as good. */
    private static void firstRowOfEqualOnes() {
        TaxFarm x = Check.farm(one(0, 50, 0, 10));
        for (int years = 1; years <= 5; years++) {
            Check.due("nothing grows", 0, x.gather(0, 0, years, 0));
            Check.due("means stay", 50, x.gather(0, 0, years, 1));
            for (int i = 0; i < years; i++) {
                Check.due("the first row", 0, x.gather(0, 0, years, 2 + i));
            }
        }
    }

    /** Means and crops are 9,999 at most. */
    private static void atMost() {
        for (int kind = 0; kind < 4; kind++) {
            for (int more : new int[] {8990, 8999, 9000}) {
                TaxFarm x = Check.held(one(kind, 999, 300, 50), 0, 1);
                x.lend(0, more);
                compareGather("of " + (999 + more), x, kind, 300, 50, 3);
                compareRate("of " + (999 + more), x, kind, 300, 50, 20);
                x.year(0);
                compareGather("behind a YEAR", x, kind, 300, 50, 3);
                compareRate("behind a YEAR", x, kind, 300, 50, 4);
            }
        }
        TaxFarm y = Check.held(one(0, 999, 300, 100), 0, 1);
        y.lend(0, 9000);
        Check.due("five crops of 9,999", 5 * 9999, y.gather(0, 0, 5, 0));
        Check.due("means at most", 9999, y.gather(0, 0, 5, 1));
        Check.due("whole by all", 100, y.rate(0, 0, 20));
    }

    /** 'the highest one of a hundred (0 to 100)'. */
    private static void rateZeroAndHundred() {
        for (int tithe : new int[] {0, 1, 50, 99, 100}) {
            for (int kind = 0; kind < 4; kind++) {
                TaxFarm x = Check.farm(one(kind, 990, 100, tithe));
                compareRate("of a tithe of " + tithe, x, kind, 100, tithe, 1);
                if (kind == 2) {
                    Check.due("a proud one by its tithe alone", tithe, x.rate(0, 0, 1));
                }
            }
        }
        Check.due("0", 0, Check.farm(one(2, 999, 300, 0)).rate(0, 0, 1));
        Check.due("100", 100, Check.farm(one(2, 999, 300, 100)).rate(0, 0, 1));
        Check.due("nothing to lose", 100, Check.farm(one(2, 0, 300, 0)).rate(0, 0, 20));
    }

    private static void rateOfManyYears() {
        for (int years = 1; years <= 20; years++) {
            for (int kind = 0; kind < 4; kind++) {
                compareRate("in " + years, Check.farm(one(kind, 321, 77, 13)), kind, 77, 13, years);
            }
        }
    }

    /** 'nothing else (no debts)': a debt and its law change nothing of it. */
    private static void noDebts() {
        TaxFarm x = Check.held(one(0, 90, 120, 10) + "owes 9999; alone 50;", 0, 1);
        x.lend(0, 9);
        compareGather("with a debt", x, 0, 120, 10, 4);
        compareRate("with a debt", x, 0, 120, 10, 9);
        x.year(0);
        compareGather("with a great debt", x, 0, 120, 10, 4);
        compareRate("with a great debt", x, 0, 120, 10, 9);
    }

    private static void nothingIsDone() {
        TaxFarm x = Check.held(TWO, 0, 9);
        x.year(0);
        x.take(0, 30);
        String before = Look.at(x);
        int first = x.gather(0, 0, 5, 3);
        x.gather(1, 1, 2, 0);
        x.rate(0, 0, 20);
        x.rate(1, 1, 3);
        x.gather(0, 0, 6, 0);
        x.gather(0, 0, 1, 5);
        Check.due("the same again", first, x.gather(0, 0, 5, 3));
        Check.due("nothing is done", true, before.equals(Look.at(x)));
    }
}
