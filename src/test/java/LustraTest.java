/** Promise 32 (lustra), against years that are played by hand with the same draws. */
public final class LustraTest {
    private static final String[] TEXTS = {
        "town a plain means 200; town b rich means 90; town c proud means 101; town d port means 77;"
            + "company o honest coins 500; company p noble coins 60; company s straw coins 70; company f fair coins 999;"
            + "harvest g grows 130 odds 2; harvest h grows 20 odds 5; juror j holds o price 1; juror k holds p price 1; bar 40;",
        "town a plain means 10; company f fair coins 999; harvest g grows 300 odds 9; tithe 40; alone wealth - 3; bar 5;"
            + "company o noble coins 90; juror j holds o price 1;",
        "town a port means 0; company f noble coins 5; company o honest coins 300; harvest g grows 0 odds 1; tithe 0;",
        "company o honest coins 300; harvest g grows 0 odds 1;",
        "town a port means 30; company o honest coins 300;",
        "town a port means 30; harvest g grows 0 odds 1;",
        "",
        "town a plain means 300; town b proud means 90; company f fair coins 999; company o honest coins 900;"
            + "harvest g grows 200 odds 2; harvest m grows 90 odds 3; harvest d grows 10 odds 1; harvest e grows 50 odds 4;",
    };
    private static final int[] ODDS = {2, 5};

    public static void main(String[] args) {
        wrong();
        leavesAll();
        byHand();
        fromNow();
        withoutYears();
        Check.end();
    }

    private static void wrong() {
        TaxFarm x = Check.farm(TEXTS[0]);
        int[] wrong = {-1, 10000, Integer.MIN_VALUE, Integer.MAX_VALUE};
        for (int i : wrong) {
            Check.due("lustra(" + i + ", 1, 0)", -1, x.lustra(i, 1, 0));
            Check.due("lustra(1, " + i + ", 0)", -1, x.lustra(1, i, 0));
            Check.due("lustra(1, 1, " + i + ")", -1, x.lustra(1, 1, i));
        }
        Check.due("lustra(1, 0, 0)", -1, x.lustra(1, 0, 0));
        Check.due("lustra(1, 51, 0)", -1, x.lustra(1, 51, 0));
        Check.due("lustra(1, 1, 3)", -1, x.lustra(1, 1, 3));
        Check.due("lustra(0, 50, 2)", true, x.lustra(0, 50, 2) >= 0);
        Check.due("lustra(9999, 50, 2)", true, x.lustra(9999, 50, 2) >= 0);
    }

    private static void leavesAll() {
        TaxFarm x = Check.farm(TEXTS[0]);
        x.bid(0, 100);
        x.award();
        x.year(0);
        x.undo();
        int means = x.count(8);
        x.lustra(5, 20, 0);
        Check.due("years", 0, x.count(4));
        Check.due("means", means, x.count(8));
        Check.due("the state", 100, x.count(7));
        Check.due("holder", 0, x.holder());
        Check.due("undo", 2, x.count(11));
    }

    private static int[] oddsOf(int text) {
        switch (text) {
            case 0: return ODDS;
            case 1: return new int[] {9};
            case 7: return new int[] {2, 3, 1, 4};
            case 2:
            case 3:
            case 5: return new int[] {1};
            default: return new int[0];
        }
    }

    private static void byHand() {
        for (int text = 0; text < TEXTS.length; text++) {
            for (int seed = 0; seed < 10000; seed += 499) {
                ByDraws.compare(Check.farm(TEXTS[text]), oddsOf(text), seed, 1 + seed % 13);
            }
        }
        ByDraws.compare(Check.farm(TEXTS[1]), oddsOf(1), 9999, 40);
    }

    private static void fromNow() {
        for (int seed = 1; seed < 300; seed += 13) {
            TaxFarm x = Check.farm(TEXTS[0]);
            x.bid(3, 150);
            x.bid(0, 40);
            ByDraws.compare(x, ODDS, seed, 3);
            TaxFarm y = Check.farm(TEXTS[0]);
            y.bid(0, 40);
            y.award();
            y.year(1);
            y.take(0, 30);
            y.spare(1);
            ByDraws.compare(y, ODDS, seed, 7);
        }
    }

    /** The holder has had his five years: no year can be, but the towns are drawn for. */
    private static void withoutYears() {
        for (int seed = 1; seed < 300; seed += 13) {
            TaxFarm x = Check.farm(TEXTS[0]);
            x.bid(0, 40);
            x.award();
            for (int i = 0; i < 5; i++) {
                x.year(0);
            }
            x.take(0, x.town(0, 2) - 3);
            x.spare(1);
            ByDraws.compare(x, ODDS, seed, 3);
        }
    }
}
