/** Promise 32 at its bounds: LUSTRA, its DRAWS, and which of what it does can't be. */
public final class LustraBoundsTest {
    private static final String TEXT = "town a plain means 200; town b rich means 90; town c proud means 101; town d port means 77;"
            + "company o honest coins 500; company p noble coins 60; company s straw coins 70; company f fair coins 999;"
            + "harvest g grows 130 odds 2; harvest h grows 20 odds 5; juror j holds o price 1; juror k holds p price 1; bar 40;";
    private static final int[] ODDS = {2, 5};

    public static void main(String[] args) {
        others();
        ofNothing();
        firstDraws();
        drawsOfAHundred();
        drawsByOdds();
        drawsOfTowns();
        poorCompanies();
        strawsAlone();
        withoutHarvests();
        nothingIsNoTake();
        lastsFiveYears();
        suedThenClosed();
        whatTheStateGot();
        allIsAsAhead();
        sameAgain();
        wholeLease();
        Check.end();
    }

    /** 'a SEED (0 to 9999)', 'so many years (1 to 50)'; 'NONE: others'. */
    private static void others() {
        TaxFarm x = Check.farm(TEXT);
        for (int seed : new int[] {-2, -1, 0, 1, 9998, 9999, 10000, 10001, Integer.MIN_VALUE, Integer.MAX_VALUE}) {
            Check.due("seed " + seed, seed >= 0 && seed <= 9999, x.lustra(seed, 1, 2) != -1);
        }
        for (int years : new int[] {-1, 0, 1, 2, 49, 50, 51, 52, Integer.MIN_VALUE, Integer.MAX_VALUE}) {
            Check.due("years " + years, years >= 1 && years <= 50, x.lustra(1, years, 2) != -1);
        }
        for (int what : new int[] {-2, -1, 0, 1, 2, 3, 4, Integer.MIN_VALUE, Integer.MAX_VALUE}) {
            Check.due("what " + what, what >= 0 && what <= 2, x.lustra(1, 1, what) != -1);
        }
    }

    private static void ofNothing() {
        TaxFarm x = new TaxFarm();
        for (int what = 0; what <= 2; what++) {
            Check.due("of nothing", 0, x.lustra(9999, 50, what));
        }
        Check.due("others of nothing", -1, x.lustra(0, 51, 0));
        TaxFarm y = Check.farm("town a plain means 7; harvest h grows 300 odds 1;");
        Check.due("without COMPANIES", 0, y.lustra(1, 50, 0));
        Check.due("without COMPANIES", 0, y.lustra(1, 50, 1));
        Check.due("without COMPANIES", 7, y.lustra(1, 50, 2));
    }

    /** 'g becomes (g * 1103515245 + 12345) modulo 2147483648; it is g / 65536, cut, modulo m', by numbers worked out apart. */
    private static void firstDraws() {
        // SEED 0: 12345 / 65536 is 0. SEED 1: 1103527590 / 65536 is 16838. SEED 9999: 277963676 / 65536 is 4241.
        int[] seeds = {0, 1, 9999};
        int[] bids = {0, 38, 41};
        for (int i = 0; i < seeds.length; i++) {
            TaxFarm x = Check.farm("company o honest coins 99;");
            Check.due("the first DRAW of " + seeds[i], bids[i], x.lustra(seeds[i], 1, 0));
        }
    }

    /** Each COMPANY's bid is a DRAW below 100: 0 to 99, and the highest is paid. */
    private static void drawsOfAHundred() {
        for (int seed = 0; seed < 10000; seed += 173) {
            TaxFarm x = Check.farm("company o honest coins 99; company p honest coins 9999; company q fair coins 100;");
            ByDraws.start(seed);
            int highest = 0;
            for (int i = 0; i < 3; i++) {
                highest = Math.max(highest, ByDraws.draw(100));
            }
            Check.due("the highest of three by " + seed, highest, x.lustra(seed, 1, 0));
        }
    }

    /** 'the first one whose odds and those ahead of it together are more than that'. */
    private static void drawsByOdds() {
        int[][] rows = {{1}, {9}, {1, 1}, {1, 9}, {9, 1}, {3, 1, 2}, {1, 1, 1, 1, 1}, {9, 9, 9, 9, 9}, {2, 3, 1, 4, 5}};
        for (int[] odds : rows) {
            StringBuilder text = new StringBuilder("town a plain means 100; company o honest coins 99; tithe 0; alone 0;");
            int sum = 0;
            for (int i = 0; i < odds.length; i++) {
                text.append("harvest h").append((char) ('a' + i)).append(" grows ").append(10 * i + 10).append(" odds ").append(odds[i]).append(';');
                sum += odds[i];
            }
            TaxFarm x = Check.held(text.toString(), 0, 1);
            boolean[] seen = new boolean[sum];
            for (int seed = 0; seed < 400; seed++) {
                ByDraws.start(seed);
                int rest = ByDraws.draw(sum);
                seen[rest] = true;
                int harvest = 0;
                int together = odds[0];
                while (together <= rest) {
                    harvest++;
                    together += odds[harvest];
                }
                int half = ByDraws.draw(3) == 1 ? (10 * harvest + 10) / 2 : 0;
                Check.due("greed by " + seed + " of " + text, half, x.lustra(seed, 1, 1));
                if (seed == 200) {
                    x = Check.held(text.toString(), 0, 1);
                }
            }
            int missing = 0;
            for (boolean one : seen) {
                missing += one ? 0 : 1;
            }
            Check.due("each number below " + sum + " was drawn", 0, missing);
        }
    }

    /** 'a DRAW below 3: 0: its tithe is TAKEN, 1: half of its crop, cut, 2: it is SPARED'. */
    private static void drawsOfTowns() {
        for (int seed = 0; seed < 200; seed++) {
            TaxFarm x = Check.held("town a plain means 99; company o honest coins 99; harvest h grows 100 odds 1; tithe 31; alone 7;", 0, 1);
            ByDraws.start(seed);
            ByDraws.draw(1);
            int choice = ByDraws.draw(3);
            // A tithe of 30 is no greed; half of 99 is 49, greed 19 and harm 9; 7 are given.
            Check.due("greed by " + seed, choice == 1 ? 19 : 0, x.lustra(seed, 1, 1));
            Check.due("means by " + seed, choice == 1 ? 90 : choice == 2 ? 92 : 99, x.lustra(seed, 1, 2));
            Check.due("the state", 0, x.lustra(seed, 1, 0));
        }
    }

    /** 'its BID, if it can be': one it has no coins for is none, but its DRAW is drawn. */
    private static void poorCompanies() {
        for (int seed = 0; seed < 300; seed++) {
            TaxFarm x = Check.farm("company o honest coins 30; company p honest coins 0; company q honest coins 70;");
            ByDraws.start(seed);
            int first = ByDraws.draw(100);
            ByDraws.draw(100);
            int third = ByDraws.draw(100);
            int highest = Math.max(first <= 30 ? first : 0, third <= 70 ? third : 0);
            Check.due("by " + seed, highest, x.lustra(seed, 1, 0));
        }
        TaxFarm y = Check.farm("town a plain means 9; company o honest coins 0; harvest h grows 300 odds 1;");
        Check.due("no bid can be above 0", 0, y.lustra(5, 50, 0));
        Check.due("nobody holds it", 9, y.lustra(5, 50, 2));
    }

    /** What a straw's BID wins nobody has, in each year anew. */
    private static void strawsAlone() {
        TaxFarm x = Check.farm("town a port means 9; company s straw coins 9999; harvest h grows 300 odds 1;");
        for (int what = 0; what <= 2; what++) {
            Check.due("straws alone", what == 2 ? 9 : 0, x.lustra(77, 50, what));
        }
    }

    /** 'If somebody holds it and there are HARVESTS': without them it is held for good. */
    private static void withoutHarvests() {
        for (int seed = 0; seed < 50; seed++) {
            TaxFarm x = Check.farm("town a plain means 50; company o honest coins 99;");
            ByDraws.start(seed);
            int paid = ByDraws.draw(100);
            if (paid == 0) {
                paid = ByDraws.draw(100);
            }
            Check.due("paid once", paid, x.lustra(seed, 50, 0));
            Check.due("nothing is taken", 0, x.lustra(seed, 50, 1));
            Check.due("nothing is given", 50, x.lustra(seed, 50, 2));
        }
    }

    /** '(nothing is no TAKE)': a tithe of 0 and half of a crop of 1. */
    private static void nothingIsNoTake() {
        TaxFarm x = Check.held("town a plain means 1; company o honest coins 99; harvest h grows 100 odds 1; tithe 0; alone 0;", 0, 1);
        for (int seed = 0; seed < 40; seed++) {
            Check.due("no greed", 0, x.lustra(seed, 5, 1));
            Check.due("means", 1, x.lustra(seed, 5, 2));
        }
    }

    /** From a holder who has had 0 to 5 YEARS: his last one is the fifth. */
    private static void lastsFiveYears() {
        for (int had = 0; had <= 5; had++) {
            for (int years = 1; years <= 7; years++) {
                TaxFarm x = Check.held(TEXT, 0, 40);
                for (int i = 0; i < had; i++) {
                    x.year(1);
                }
                ByDraws.compare(x, ODDS, 100 * had + years, years);
            }
        }
        for (int seed : new int[] {0, 1, 9998, 9999}) {
            ByDraws.compare(Check.farm(TEXT), ODDS, seed, 11);
        }
    }

    /** 'he is SUED, and CLOSE, if that can be': a lost suit leaves nothing to close; the next year is a new lease. */
    private static void suedThenClosed() {
        String rough = "town a plain means 300; town b plain means 300; company o honest coins 99; company z honest coins 0;"
                + "harvest h grows 100 odds 1; tithe 0; juror j holds z price 1;";
        int lost = 0;
        for (int seed = 0; seed < 40; seed++) {
            TaxFarm x = Check.held(rough, 0, 1);
            int five = x.lustra(seed, 5, 0);
            int four = x.lustra(seed, 4, 0);
            int taken = x.lustra(seed, 5, 1);
            Check.due("nothing comes to the state ahead of it", 0, four);
            Check.due("twice the greed, as far as he has it", true, five <= 2 * taken && (taken == 0 || five > 0));
            lost += five > 0 ? 1 : 0;
            ByDraws.compare(x, new int[] {1}, seed, 7);
        }
        Check.due("some were lost", true, lost > 20);
    }

    /** 'what the state got': not what it had. */
    private static void whatTheStateGot() {
        TaxFarm x = Check.held("town a plain means 9; company o honest coins 999; harvest h grows 0 odds 1; alone 0;", 0, 900);
        Check.due("it has", 900, x.count(7));
        Check.due("it got nothing", 0, x.lustra(1, 5, 0));
        ByDraws.compare(x, new int[] {1}, 1, 6);
    }

    /** '(all is as ahead then)'. */
    private static void allIsAsAhead() {
        TaxFarm x = Check.held(TEXT, 0, 40);
        x.year(0);
        x.take(0, 99);
        x.spare(1);
        x.bribe(1);
        x.tale(2, 50);
        x.mark(1, false);
        Check.past(x, "bid o 3; award; year g;");
        String before = Look.at(x);
        for (int what = -1; what <= 3; what++) {
            x.lustra(4711, 50, what);
            x.lustra(4711, 51, what);
        }
        Check.due("as ahead", true, before.equals(Look.at(x)));
        Check.due("undo", true, x.undo());
        Check.due("the bribe is undone", 0, x.juror(1, 2));
        Check.due("the state", 40, x.count(7));
    }

    private static void sameAgain() {
        TaxFarm x = Check.farm(TEXT);
        TaxFarm y = Check.farm(TEXT);
        for (int years = 1; years <= 50; years += 7) {
            for (int what = 0; what <= 2; what++) {
                int first = x.lustra(321, years, what);
                y.lustra(123, 51 - years, what);
                Check.due("the same again", first, x.lustra(321, years, what));
                Check.due("the same of another object", first, y.lustra(321, years, what));
            }
        }
    }

    private static void wholeLease() {
        for (int seed = 7; seed < 10000; seed += 1111) {
            ByDraws.compare(Check.farm("town a rich means 500; company f fair coins 999; company n noble coins 999; harvest g grows 90 odds 3;"
                    + "harvest h grows 10 odds 7; juror j holds f price 1; juror k holds n price 1; juror l holds n price 1; bar 99;"),
                    new int[] {3, 7}, seed, 30);
        }
    }
}
