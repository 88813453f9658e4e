import java.util.function.Supplier;
import java.util.function.ToLongFunction;

/** Promises 5 to 11 and 18 at their bounds: who and what there is, BID, AWARD, YEAR and CLOSE. */
public final class LeaseBoundsTest {
    private static final int[] EXTREME = {-1, -2, Integer.MIN_VALUE, Integer.MAX_VALUE};
    private static final String ALL = "town a plain means 1; town b plain means 2; town c plain means 3; town d plain means 4;"
            + "town e plain means 5; town f plain means 6; company g fair coins 11; company h fair coins 12; company i fair coins 13;"
            + "company j fair coins 14; company k fair coins 15; harvest l grows 10 odds 1; harvest m grows 20 odds 1;"
            + "harvest n grows 30 odds 1; harvest o grows 40 odds 1; harvest p grows 50 odds 1; juror q holds g price 1;"
            + "juror r holds h price 2; juror s holds i price 3; juror t holds j price 4; juror u holds k price 5;";
    private static final String SOME = "town a plain means 90; town b rich means 80; company c honest coins 50; company d noble coins 60;"
            + "company e straw coins 70; harvest h grows 100 odds 2; harvest i grows 50 odds 3; juror j holds d price 4;"
            + "juror k holds d price 5; owes debt + 1;";

    public static void main(String[] args) {
        whoThereIs();
        whatThereIs();
        fewThereAre();
        bidsByCoins();
        bidsBeyondAll();
        bidsAreReplaced();
        refusedBids();
        awardsByHeight();
        awardsOfStraws();
        awardsOfNobles();
        awardsBeginAnew();
        refusedAwards();
        yearsOfALease();
        refusedYears();
        halfOfTheCrop();
        meansAtMost();
        cropsAtMost();
        debtsByTheLaw();
        closes();
        refusedCloses();
        Check.end();
    }

    /** TOWNS 0 to 5, COMPANIES and JURORS 0 to 4: one below and one beyond are others. */
    private static void whoThereIs() {
        TaxFarm x = Check.farm(ALL);
        for (int i = -2; i <= 7; i++) {
            Check.due("town(" + i + ", 1)", i >= 0 && i <= 5 ? i + 1 : -1, x.town(i, 1));
            Check.due("company(" + i + ", 1)", i >= 0 && i <= 4 ? i + 11 : -1, x.company(i, 1));
            Check.due("juror(" + i + ", 1)", i >= 0 && i <= 4 ? i + 1 : -2, x.juror(i, 1));
            Check.due("juror(" + i + ", 0)", i >= 0 && i <= 4 ? i : -2, x.juror(i, 0));
            Check.due("bid(" + i + ", 1)", i >= 0 && i <= 4, x.bid(i, 1));
        }
        for (int i : EXTREME) {
            Check.due("town(" + i + ", 1)", -1, x.town(i, 1));
            Check.due("company(" + i + ", 1)", -1, x.company(i, 1));
            Check.due("juror(" + i + ", 1)", -2, x.juror(i, 1));
        }
        Check.due("award", 0, x.award());
        for (int i = -2; i <= 6; i++) {
            Check.due("year(" + i + ")", i >= 0 && i <= 4, x.year(i) >= 0);
        }
    }

    private static void whatThereIs() {
        TaxFarm x = Check.held(ALL, 2, 3);
        x.year(4);
        for (int what = -2; what <= 9; what++) {
            Check.due("town(5, " + what + ")", what >= 0 && what <= 6, x.town(5, what) != -1);
            Check.due("company(4, " + what + ")", what >= 0 && what <= 2, x.company(4, what) != -1);
            Check.due("juror(4, " + what + ")", what >= 0 && what <= 3, x.juror(4, what) != -2);
        }
        for (int what : EXTREME) {
            Check.due("town(0, " + what + ")", -1, x.town(0, what));
            Check.due("company(0, " + what + ")", -1, x.company(0, what));
            Check.due("juror(0, " + what + ")", -2, x.juror(0, what));
        }
        Check.due("juror(4, 3): somebody holds it", 1, x.juror(4, 3));
        x.undo();
        x.undo();
        Check.due("juror(4, 3): nobody holds it", -1, x.juror(4, 3));
        Check.due("juror(5, 3)", -2, x.juror(5, 3));
    }

    /** One of each: the second is an other one, though a larger PROVINCE was told ahead of it. */
    private static void fewThereAre() {
        TaxFarm x = Check.farm(ALL);
        Check.due("one of each", 0, Check.province(x, "town a port means 9; company c noble coins 8; harvest h grows 7 odds 6;"
                + "juror j holds c price 5;"));
        for (int i = 1; i <= 6; i++) {
            Check.due("town(" + i + ", 1)", -1, x.town(i, 1));
            Check.due("company(" + i + ", 1)", -1, x.company(i, 1));
            Check.due("juror(" + i + ", 1)", -2, x.juror(i, 1));
            Check.due("bid(" + i + ", 0)", false, x.bid(i, 0));
            Check.due("tale(" + i + ", 0)", false, x.tale(i, 0));
            Check.due("worth(" + (1 << i) + ")", -1, x.worth(1 << i));
        }
        x.bid(0, 8);
        x.award();
        for (int i = 1; i <= 6; i++) {
            Check.due("year(" + i + ")", -1, x.year(i));
            Check.due("lend(" + i + ", 1)", -1, x.lend(i, 1));
            Check.due("spare(" + i + ")", -1, x.spare(i));
            Check.due("bribe(" + i + ")", false, x.bribe(i));
        }
    }

    /** '(it has as many coins; 0: none)'. */
    private static void bidsByCoins() {
        for (int coins : new int[] {0, 1, 2, 500, 9998, 9999}) {
            TaxFarm x = Check.farm("company c honest coins " + coins + ";");
            for (int bid : new int[] {-1, 0, 1, coins - 1, coins, coins + 1, 9999, 10000}) {
                boolean can = bid >= 0 && bid <= coins;
                int before = x.company(0, 2);
                Check.due("bid(0, " + bid + ") of " + coins, can, x.bid(0, bid));
                Check.due("its bid", can ? bid : before, x.company(0, 2));
                Check.due("its coins", coins, x.company(0, 1));
            }
        }
    }

    /** '(0 to 9999)': a COMPANY that has more coins than that can't bid them. */
    private static void bidsBeyondAll() {
        TaxFarm x = Check.held("town a plain means 999; company c honest coins 9999; harvest h grows 300 odds 1;", 0, 1);
        for (int i = 0; i < 5; i++) {
            x.year(0);
        }
        x.take(0, 9000);
        Check.due("it has more", true, x.company(0, 1) > 10000);
        Check.due("close", true, x.close());
        Check.due("bid of 10000", false, x.bid(0, 10000));
        Check.due("bid of all", false, x.bid(0, x.company(0, 1)));
        Check.due("bid of 9999", true, x.bid(0, 9999));
        Check.due("award", 0, x.award());
        Check.due("it pays that", 18998 - 9999, x.company(0, 1));
        Check.due("the state", 10000, x.count(7));
    }

    private static void bidsAreReplaced() {
        TaxFarm x = Check.farm(SOME);
        int[] bids = {50, 1, 0, 49, 0, 50};
        for (int bid : bids) {
            Check.due("bid", true, x.bid(0, bid));
            Check.due("from now on", bid, x.company(0, 2));
            Check.due("others have none", 0, x.company(1, 2) + x.company(2, 2));
        }
        Check.due("each can be undone", bids.length, x.count(11));
        x.bid(0, 0);
        Check.due("no bid: none", -2, x.award());
    }

    private static Supplier<TaxFarm> made(int steps) {
        return () -> {
            TaxFarm x = Check.farm(SOME);
            x.tale(0, 5);
            x.mark(0, false);
            for (int i = 0; i < steps; i++) {
                step(x, i);
            }
            return x;
        };
    }

    private static void step(TaxFarm x, int step) {
        switch (step) {
            case 0: x.bid(0, 20); break;
            case 1: x.bid(2, 10); break;
            case 2: x.award(); break;
            case 4: x.take(0, 40); break;
            case 5: x.lend(1, 6); break;
            case 6: x.spare(1); break;
            case 7: x.bribe(0); break;
            case 12: x.close(); break;
            default: x.year(0);
        }
    }

    private static void refused(String call, long want, int steps, ToLongFunction<TaxFarm> called) {
        Look.refused(call + " behind " + steps + " steps", want, made(steps), called);
    }

    private static void refusedBids() {
        int[][] calls = {{-1, 1}, {3, 1}, {5, 0}, {Integer.MIN_VALUE, 1}, {Integer.MAX_VALUE, 1}, {0, -1}, {1, 61}, {0, 10000},
            {0, Integer.MIN_VALUE}, {0, Integer.MAX_VALUE}, {2, 71}};
        for (int[] call : calls) {
            for (int steps : new int[] {0, 2, 3, 7, 13}) {
                refused("bid(" + call[0] + ", " + call[1] + ")", 0, steps, x -> Look.bit(x.bid(call[0], call[1])));
            }
        }
        for (int steps = 3; steps <= 12; steps++) {
            refused("bid(1, 1) when it is held", 0, steps, x -> Look.bit(x.bid(1, 1)));
            refused("bid(0, 0) when it is held", 0, steps, x -> Look.bit(x.bid(0, 0)));
        }
    }

    /** 'to the highest one (of equal ones the first)'. */
    private static void awardsByHeight() {
        for (int top = 0; top < 5; top++) {
            for (int other = 0; other < 5; other++) {
                TaxFarm x = Check.farm(ALL);
                for (int i = 0; i < 5; i++) {
                    x.bid(i, i == top || i == other ? 9 : 8);
                }
                Check.due("the first of equal ones", Math.min(top, other), x.award());
                Check.due("holder", Math.min(top, other), x.holder());
                Check.due("the state", 9, x.count(7));
                TaxFarm y = Check.farm(ALL);
                y.bid(other, 1);
                y.bid(top, 2);
                Check.due("higher by one", top, y.award());
            }
            TaxFarm w = Check.farm(ALL);
            w.bid(top, 1);
            Check.due("a bid of 1 alone", top, w.award());
            Check.due("its coins", 10 + top, w.company(top, 1));
        }
    }

    /** 'if that is a straw's nobody has it'. */
    private static void awardsOfStraws() {
        for (int straw = 0; straw <= 10; straw++) {
            TaxFarm x = Check.farm("company c honest coins 9; company s straw coins 10; company d honest coins 9;");
            x.bid(0, 5);
            x.bid(1, straw);
            x.bid(2, 6);
            int want = straw < 6 ? 2 : -1;
            Check.due("a straw's bid of " + straw, want, x.award());
            Check.due("holder", want, x.holder());
            Check.due("a straw's coins", 10, x.company(1, 1));
            Check.due("the state", straw < 6 ? 6 : 0, x.count(7));
            for (int i = 0; i < 3; i++) {
                Check.due("no bids", 0, x.company(i, 2));
            }
            Check.due("it can be undone", 4, x.count(11));
        }
        TaxFarm y = Check.farm("company s straw coins 10; company t straw coins 10;");
        y.bid(1, 1);
        Check.due("of straws alone", -1, y.award());
        Check.due("no more", -2, y.award());
    }

    /** 'a noble one three quarters of it, cut'. */
    private static void awardsOfNobles() {
        int[] bids = {1, 2, 3, 4, 5, 6, 7, 8, 9998, 9999};
        int[] paid = {0, 1, 2, 3, 3, 4, 5, 6, 7498, 7499};
        for (int i = 0; i < bids.length; i++) {
            TaxFarm x = Check.held("company n noble coins 9999; company o honest coins 9999;", 0, bids[i]);
            Check.due("a noble one pays of " + bids[i], 9999 - paid[i], x.company(0, 1));
            Check.due("the state", paid[i], x.count(7));
            TaxFarm y = Check.held("company n noble coins 9999; company o honest coins 9999;", 1, bids[i]);
            Check.due("an honest one pays of " + bids[i], 9999 - bids[i], y.company(1, 1));
            TaxFarm w = Check.held("company n fair coins 9999;", 0, bids[i]);
            Check.due("a fair one pays of " + bids[i], bids[i], w.count(7));
        }
        TaxFarm v = Check.held("company n noble coins 1;", 0, 1);
        Check.due("it holds it for nothing", 0, v.holder());
    }

    /** 'either way no bids then, no YEARS had, no GREED, nobody bribed'; YEARS in all stay. */
    private static void awardsBeginAnew() {
        for (int next = 0; next < 3; next++) {
            TaxFarm x = made(12).get();
            x.take(0, x.town(0, 2));
            x.bribe(1);
            x.close();
            int greed = x.count(6);
            int crop = x.town(1, 2);
            int debt = x.town(1, 3);
            Check.due("greed", true, greed > 0);
            x.bid(next, 1);
            Check.due("a bid ends nothing", greed, x.count(6));
            Check.due("award", next == 2 ? -1 : next, x.award());
            Check.due("no YEARS had", 0, x.count(5));
            Check.due("YEARS in all", 5, x.count(4));
            Check.due("no GREED", 0, x.count(6));
            Check.due("nobody bribed", 0, x.juror(0, 2) + x.juror(1, 2));
            Check.due("no bids", 0, x.company(0, 2) + x.company(1, 2) + x.company(2, 2));
            Check.due("a crop stays", crop, x.town(1, 2));
            Check.due("a debt stays", debt, x.town(1, 3));
            Check.due("the state", 20 + (next == 0 ? 1 : 0), x.count(7));
        }
    }

    private static void refusedAwards() {
        refused("award without a bid", -2, 0, TaxFarm::award);
        for (int steps = 3; steps <= 12; steps++) {
            refused("award when it is held", -2, steps, TaxFarm::award);
        }
        refused("award behind close", -2, 13, TaxFarm::award);
        Look.refused("award of bids of 0", -2, () -> {
            TaxFarm x = made(1).get();
            x.bid(0, 0);
            x.bid(1, 0);
            return x;
        }, TaxFarm::award);
        Look.refused("award behind a straw's", -2, () -> {
            TaxFarm x = made(1).get();
            x.bid(2, 70);
            x.award();
            return x;
        }, TaxFarm::award);
        Check.due("award of no companies", -2, Check.farm("town a plain means 1;").award());
    }

    /** 'if somebody holds it and has not had 5'. */
    private static void yearsOfALease() {
        TaxFarm x = Check.farm("town a plain means 10; company c honest coins 90; harvest h grows 0 odds 1;");
        for (int lease = 0; lease < 3; lease++) {
            Check.due("nobody holds it", -1, x.year(0));
            x.bid(0, 1);
            x.award();
            for (int had = 0; had <= 7; had++) {
                Check.due("YEARS had", Math.min(5, had), x.count(5));
                Check.due("YEARS in all", 5 * lease + Math.min(5, had), x.count(4));
                Check.due("another one behind " + had, had < 5 ? 0 : -1, x.year(0));
            }
            x.undo();
            Check.due("a fifth again", 0, x.year(0));
            Check.due("a sixth", -1, x.year(0));
            Check.due("close", true, x.close());
        }
        TaxFarm y = Check.held("company c honest coins 90; harvest h grows 0 odds 1;", 0, 1);
        Check.due("a YEAR without TOWNS", 0, y.year(0));
        Check.due("it is had", 1, y.count(5));
        Check.due("it can be undone", 3, y.count(11));
        Check.due("without HARVESTS", -1, Check.held("company c honest coins 90;", 0, 1).year(0));
    }

    private static void refusedYears() {
        for (int steps : new int[] {0, 2, 13}) {
            for (int harvest = -1; harvest <= 2; harvest++) {
                int which = harvest;
                refused("year(" + harvest + ") when nobody holds it", -1, steps, x -> x.year(which));
            }
        }
        for (int harvest : new int[] {-1, 2, 5, Integer.MIN_VALUE, Integer.MAX_VALUE}) {
            for (int steps : new int[] {3, 8}) {
                refused("year(" + harvest + ")", -1, steps, x -> x.year(harvest));
            }
        }
        refused("a sixth year", -1, 12, x -> x.year(0));
        refused("a sixth year of another HARVEST", -1, 12, x -> x.year(1));
    }

    /** 'first half of what each TOWN has of its crop, cut, is added to its means, and it has no crop'. */
    private static void halfOfTheCrop() {
        for (int left = 0; left <= 7; left++) {
            TaxFarm x = Check.held("town a plain means 100; company c honest coins 9; harvest h grows 10 odds 1; harvest z grows 0 odds 1;"
                    + "tithe 100;", 0, 1);
            x.year(0);
            x.take(0, 10 - left);
            Check.due("what it has", left, x.town(0, 2));
            Check.due("nothing grows", 0, x.year(1));
            Check.due("half of " + left, 100 + left / 2, x.town(0, 1));
            Check.due("no crop", 0, x.town(0, 2));
            Check.due("nothing is taken", 0, x.town(0, 4));
            Check.due("no tithe", 0, x.town(0, 6));
        }
    }

    /** A TOWN of so many means (beyond 999 by a loan), in a lease of which no YEAR is had. */
    private static TaxFarm wealthy(String kind, int means, String more) {
        TaxFarm x = Check.held("town a " + kind + " means " + Math.min(999, means) + "; company c honest coins 9999; harvest h grows 100 odds 1;"
                + "harvest z grows 0 odds 1; harvest t grows 300 odds 1; tithe 100;" + more, 0, 1);
        if (means > 999) {
            x.lend(0, means - 999);
        }
        Check.due("means", means, x.town(0, 1));
        return x;
    }

    /** 'added to its means (9,999 at most)'. */
    private static void meansAtMost() {
        for (int half = 0; half <= 3; half++) {
            for (int below = 0; below <= 3; below++) {
                TaxFarm x = wealthy("plain", 9999 - below, "");
                int crop = x.year(0);
                Check.due("crop", 9999 - below, crop);
                x.take(0, crop - 2 * half);
                Check.due("no greed by a tithe of all", 9999 - below, x.town(0, 1));
                x.year(1);
                Check.due("means of " + below + " below and half " + half, Math.min(9999, 9999 - below + half), x.town(0, 1));
            }
        }
        TaxFarm y = wealthy("plain", 9999, "");
        y.year(0);
        y.year(0);
        Check.due("means at most", 9999, y.town(0, 1));
        Check.due("crop", 9999, y.town(0, 2));
    }

    /** 'its means * what the HARVEST grows by 100, cut (a port's crop is 10 coins more; 9,999 at most)'. */
    private static void cropsAtMost() {
        int[] means = {0, 1, 3332, 3333, 3334, 9999};
        int[] plain = {0, 3, 9996, 9999, 9999, 9999};
        int[] port = {10, 13, 9999, 9999, 9999, 9999};
        for (int i = 0; i < means.length; i++) {
            Check.due("three times " + means[i], plain[i], wealthy("plain", means[i], "").year(2));
            Check.due("a port's of " + means[i], port[i], wealthy("port", means[i], "").year(2));
        }
        for (int more = 9987; more <= 9991; more++) {
            TaxFarm x = wealthy("port", more, "");
            Check.due("a port's of " + more, Math.min(9999, more + 10), x.year(0));
            Check.due("what it has", Math.min(9999, more + 10), x.town(0, 2));
            Check.due("its tithe", Math.min(9999, more + 10), x.town(0, 6));
        }
        Check.due("a port's of nothing", 10, wealthy("port", 9999, "").year(1));
        for (String kind : new String[] {"plain", "rich", "proud"}) {
            Check.due(kind + " of nothing", 0, wealthy(kind, 9999, "").year(1));
        }
        TaxFarm y = Check.held("town a plain means 99; town b port means 99; company c honest coins 9; harvest h grows 1 odds 1;"
                + "harvest i grows 101 odds 1; harvest j grows 102 odds 1;", 0, 1);
        Check.due("99 of a hundred are cut", 10, y.year(0));
        Check.due("99 and 104 by 101 are cut", 99 + 105 + 10, y.year(1));
        StringBuilder six = new StringBuilder("company c honest coins 9; harvest h grows 300 odds 1; tithe 0;");
        for (char name = 'm'; name <= 'r'; name++) {
            six.append("town ").append(name).append(" port means 999;");
        }
        TaxFarm w = Check.held(six.toString(), 0, 1);
        for (int i = 0; i < 4; i++) {
            w.year(0);
        }
        Check.due("crops of six together", 6 * 9999, w.year(0));
    }

    /** 'each debt becomes the E of owes (0 to 9,999) as all is then'. */
    private static void debtsByTheLaw() {
        String[] laws = {"0-1", "0", "1", "9998", "9999", "9999+1", "9999*9999", "9999*9999*22", "0-9999", "debt", "debt-7", "debt-8",
            "debt+9992", "debt+9993", "crop", "crop+1", "wealth", "wealth=1006", "not debt", "4096*4096*128-1"};
        int[] debts = {0, 0, 1, 9998, 9999, 9999, 9999, 0, 0, 7, 0, 0, 9999, 9999, 0, 1, 1006, 1, 0, 9999};
        for (int i = 0; i < laws.length; i++) {
            TaxFarm x = wealthy("plain", 1006, "owes " + laws[i] + ";");
            Check.due("debt", 7, x.town(0, 3));
            x.year(0);
            Check.due("owes " + laws[i], debts[i], x.town(0, 3));
        }
        TaxFarm y = wealthy("plain", 1006, "owes crop * 10 + wealth;");
        y.year(0);
        y.year(0);
        Check.due("by the means then and no crop", 1006 + 503, y.town(0, 3));
        TaxFarm w = wealthy("plain", 1006, "");
        w.year(0);
        w.year(0);
        Check.due("nothing comes to it without a law", 7, w.town(0, 3));
        TaxFarm v = Check.held("town a plain means 5; town b plain means 6; company c honest coins 9; harvest h grows 0 odds 1;"
                + "owes wealth;", 0, 1);
        v.year(0);
        Check.due("of each its own", 5, v.town(0, 3));
        Check.due("of each its own", 6, v.town(1, 3));
    }

    /** 'if somebody holds it and has had 5 YEARS: nobody does', and nothing else. */
    private static void closes() {
        for (int years = 0; years <= 5; years++) {
            TaxFarm x = Check.held(SOME, 0, 9);
            for (int i = 0; i < years; i++) {
                x.year(1);
            }
            Check.due("close behind " + years, years == 5, x.close());
            Check.due("holder", years == 5 ? -1 : 0, x.holder());
            Check.due("close again", false, x.close());
        }
        TaxFarm y = made(12).get();
        int coins = y.company(0, 1);
        int state = y.count(7);
        int means = y.count(8);
        int crop = y.town(0, 2);
        y.spare(1);
        y.undo();
        Check.due("close", true, y.close());
        Check.due("coins", coins, y.company(0, 1));
        Check.due("the state", state, y.count(7));
        Check.due("means", means, y.count(8));
        Check.due("crop", crop, y.town(0, 2));
        Check.due("YEARS in all", 5, y.count(4));
        Check.due("undo", true, y.undo());
        Check.due("holds it again", 0, y.holder());
    }

    private static void refusedCloses() {
        for (int steps = 0; steps <= 11; steps++) {
            refused("close", 0, steps, x -> Look.bit(x.close()));
        }
        refused("close when nobody holds it", 0, 13, x -> Look.bit(x.close()));
        Look.refused("close behind a lost suit", 0, () -> {
            TaxFarm x = made(7).get();
            for (int i = 0; i < 4; i++) {
                x.year(0);
            }
            x.take(0, x.town(0, 2));
            Check.due("a lost suit", 0, x.sue());
            return x;
        }, x -> Look.bit(x.close()));
        Check.due("close of nothing", false, new TaxFarm().close());
    }
}
