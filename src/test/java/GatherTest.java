/** Promises 23 (gather) and 24 (rate), against years that are played by hand. */
public final class GatherTest {
    private static final String TEXT = "town a plain means 200; town b rich means 90; town c proud means 101;"
            + "town d port means 77; company o honest coins 99; harvest g grows 130 odds 2; harvest h grows 0 odds 1; tithe 12;";

    public static void main(String[] args) {
        wrong();
        told();
        ties();
        gatherByHand();
        rateByHand();
        rateEdges();
        Check.end();
    }

    private static TaxFarm held(String text) {
        TaxFarm x = Check.farm(text);
        x.bid(0, 9);
        x.award();
        return x;
    }

    private static void wrong() {
        TaxFarm x = Check.farm(TEXT);
        int[] wrong = {-1, 6, Integer.MIN_VALUE, Integer.MAX_VALUE};
        for (int i : wrong) {
            Check.due("gather(" + i + ", 0, 1, 0)", -1, x.gather(i, 0, 1, 0));
            Check.due("gather(0, " + i + ", 1, 0)", -1, x.gather(0, i, 1, 0));
            Check.due("gather(0, 0, " + i + ", 0)", -1, x.gather(0, 0, i, 0));
            Check.due("gather(0, 0, 1, " + i + ")", -1, x.gather(0, 0, 1, i));
            Check.due("rate(" + i + ", 0, 1)", -1, x.rate(i, 0, 1));
            Check.due("rate(0, " + i + ", 1)", -1, x.rate(0, i, 1));
        }
        Check.due("gather of 0 years", -1, x.gather(0, 0, 0, 0));
        Check.due("gather(0, 0, 5, 6)", true, x.gather(0, 0, 5, 6) >= 0);
        Check.due("gather(0, 0, 5, 7)", -1, x.gather(0, 0, 5, 7));
        Check.due("gather(0, 0, 2, 4)", -1, x.gather(0, 0, 2, 4));
        Check.due("rate of 0 years", -1, x.rate(0, 0, 0));
        Check.due("rate of 20 years", true, x.rate(0, 0, 20) >= 0);
        Check.due("rate of 21 years", -1, x.rate(0, 0, 21));
        Check.due("nothing is done", 0, x.count(11));
    }

    private static void told() {
        TaxFarm x = Check.farm("town a proud means 100; harvest g grows 100 odds 1;");
        // Four quarters: 100 coins, greed 90, and 10 of the means are left.
        Check.due("coins", 100, x.gather(0, 0, 1, 0));
        Check.due("means", 10, x.gather(0, 0, 1, 1));
        Check.due("quarters", 4, x.gather(0, 0, 1, 2));
        TaxFarm y = Check.farm("town a proud means 100; town b plain means 10; harvest g grows 100 odds 1;"
                + "harvest h grows 50 odds 1;");
        Check.due("coins", 100, y.gather(0, 0, 1, 0));
        Check.due("fewer coins", 50, y.gather(0, 1, 1, 0));
        Check.due("fewer means", 55, y.gather(0, 1, 1, 1));
        Check.due("of another town", 5, y.gather(1, 1, 1, 0));
        Check.due("rate by another harvest", true, y.rate(0, 0, 3) != y.rate(0, 1, 3));
    }

    private static void ties() {
        TaxFarm x = Check.farm("town a plain means 0; harvest g grows 100 odds 1;");
        Check.due("nothing to have", 0, x.gather(0, 0, 3, 0));
        for (int i = 0; i < 3; i++) {
            Check.due("the first row", 0, x.gather(0, 0, 3, 2 + i));
        }
        TaxFarm y = Check.farm("town a plain means 1; harvest g grows 100 odds 1; tithe 100;");
        Check.due("coins", 1, y.gather(0, 0, 1, 0));
        Check.due("quarters", 4, y.gather(0, 0, 1, 2));
    }

    /** Plays every row of some years by hand, and keeps the best by the document's order. */
    private static void gatherByHand() {
        for (int years = 1; years <= 2; years++) {
            for (int town = 0; town < 4; town++) {
                TaxFarm x = held(TEXT);
                x.year(0);
                x.take(town, 40);
                x.mark(0, false);
                int rows = years == 1 ? 5 : 25;
                int[] best = {-1, -1, -1};
                for (int row = 0; row < rows; row++) {
                    int coins = x.company(0, 1);
                    playRow(x, town, years, row);
                    coins = x.company(0, 1) - coins;
                    int means = x.town(town, 1);
                    if (coins > best[0] || (coins == best[0] && means > best[1])) {
                        best = new int[] {coins, means, row};
                    }
                    x.mark(0, true);
                }
                String call = "gather(" + town + ", 0, " + years + ", ";
                Check.due(call + "0)", best[0], x.gather(town, 0, years, 0));
                Check.due(call + "1)", best[1], x.gather(town, 0, years, 1));
                Check.due(call + "2)", years == 1 ? best[2] : best[2] / 5, x.gather(town, 0, years, 2));
                if (years == 2) {
                    Check.due(call + "3)", best[2] % 5, x.gather(town, 0, years, 3));
                }
            }
        }
    }

    private static void playRow(TaxFarm x, int town, int years, int row) {
        for (int year = 0; year < years; year++) {
            int quarters = years == 2 && year == 0 ? row / 5 : row % 5;
            x.year(0);
            int amount = x.town(town, 2) * quarters / 4;
            if (amount > 0) {
                x.take(town, amount);
            }
        }
    }

    private static void rateByHand() {
        for (int town = 0; town < 4; town++) {
            int found = -1;
            TaxFarm y = held(TEXT);
            y.year(0);
            y.take(town, 40);
            for (int rate = 0; rate <= 100; rate++) {
                TaxFarm x = held(TEXT);
                x.year(0);
                x.take(town, 40);
                int before = x.town(town, 1);
                for (int year = 0; year < 3; year++) {
                    x.year(0);
                    int amount = x.town(town, 2) * rate / 100;
                    if (amount > 0) {
                        x.take(town, amount);
                    }
                }
                if (x.town(town, 1) >= before) {
                    found = rate;
                }
            }
            Check.due("rate(" + town + ", 0, 3)", found, y.rate(town, 0, 3));
        }
    }

    private static void rateEdges() {
        TaxFarm x = Check.farm("town a plain means 0; town b plain means 100; town c proud means 100;"
                + "harvest g grows 100 odds 1; harvest z grows 0 odds 1; tithe 0;");
        Check.due("nothing to lose", 100, x.rate(0, 0, 5));
        Check.due("nothing grows", 100, x.rate(1, 1, 5));
        Check.due("half of 1 is nothing", 1, x.rate(1, 0, 1));
        Check.due("a proud one's all", 0, x.rate(2, 0, 1));
    }
}
