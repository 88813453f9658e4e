import java.util.function.Supplier;
import java.util.function.ToLongFunction;

/** Promises 12 to 17 at their bounds: TAKE, LEND, CALL, SPARE, BRIBE and SUE. */
public final class DeedBoundsTest {
    private static final int[] EXTREME = {-1, -2, Integer.MIN_VALUE, Integer.MAX_VALUE};
    private static final String[] KINDS = {"plain", "rich", "proud", "port"};
    private static final String SOME = "town a plain means 90; town b rich means 80; company c honest coins 50; company d noble coins 60;"
            + "harvest h grows 100 odds 2; harvest i grows 50 odds 3; juror j holds d price 4; juror k holds d price 5;"
            + "juror l holds c price 0; juror m holds d price 999; owes debt + 1;";

    public static void main(String[] args) {
        takesByCrop();
        takesOfVeryMuch();
        takesByTithe();
        greedInParts();
        harmByKind();
        harmAtMost();
        takesBehindALease();
        loansByCoins();
        loansBeyondAll();
        loansAtMost();
        callsByDebt();
        callsByMeans();
        gifts();
        giftsOfRichOnes();
        sparedTillTheNextYear();
        bribesByCoins();
        bribesOfAll();
        suitsByGreed();
        suitsByJurors();
        suitsByCoins();
        suitsEndBribes();
        refusedWhenNobodyHolds();
        refusedOthers();
        Check.end();
    }

    /** 'so much (1 to 9,999) of what a TOWN that is not spared has of its crop'. */
    private static void takesByCrop() {
        for (int left = 0; left <= 3; left++) {
            for (int coins = -1; coins <= 5; coins++) {
                TaxFarm x = Check.held("town a plain means 9; company c honest coins 9; harvest h grows 100 odds 1; tithe 100;", 0, 9);
                x.year(0);
                x.take(0, 9 - left);
                int before = x.company(0, 1);
                boolean can = coins >= 1 && coins <= left;
                Check.due("take(0, " + coins + ") of " + left, can ? 0 : -1, x.take(0, coins));
                Check.due("what it has", can ? left - coins : left, x.town(0, 2));
                Check.due("taken", 9 - left + (can ? coins : 0), x.town(0, 4));
                Check.due("coins", before + (can ? coins : 0), x.company(0, 1));
            }
        }
        TaxFarm y = Check.held("town a plain means 9; company c honest coins 9; harvest h grows 0 odds 1;", 0, 9);
        Check.due("without a YEAR", -1, y.take(0, 1));
        y.year(0);
        Check.due("of no crop", -1, y.take(0, 1));
    }

    /** A crop of 9,999 at most: all of it can be taken, and no more. */
    private static void takesOfVeryMuch() {
        TaxFarm x = Check.held("town a port means 999; company c honest coins 9999; harvest h grows 300 odds 1; tithe 50;", 0, 1);
        x.lend(0, 9000);
        Check.due("crop", 9999, x.year(0));
        Check.due("take of 10000", -1, x.take(0, 10000));
        Check.due("take of 9999", 9999 - 4999, x.take(0, 9999));
        Check.due("nothing is left", 0, x.town(0, 2));
        Check.due("means", 9999 - 2500, x.town(0, 1));
        Check.due("coins", 998 + 9999, x.company(0, 1));
        x.undo();
        Check.due("take of 1", 0, x.take(0, 1));
        Check.due("take of 9999 then", -1, x.take(0, 9999));
        Check.due("take of 9998", 5000, x.take(0, 9998));
    }

    /** 'all beyond its tithe (so many of a hundred of the crop that grew, cut) is GREED'. */
    private static void takesByTithe() {
        for (int tithe : new int[] {0, 1, 10, 49, 50, 99, 100}) {
            for (int crop : new int[] {1, 2, 99, 100, 101}) {
                int due = crop * tithe / 100;
                for (int taken = due - 1; taken <= due + 2; taken++) {
                    if (taken >= 1 && taken <= crop) {
                        TaxFarm x = Check.held("town a plain means " + crop + "; company c honest coins 9;"
                                + "harvest h grows 100 odds 1; tithe " + tithe + ";", 0, 9);
                        x.year(0);
                        Check.due("its tithe", due, x.town(0, 6));
                        Check.due(taken + " of a tithe of " + due, Math.max(0, taken - due), x.take(0, taken));
                        Check.due("GREED", Math.max(0, taken - due), x.count(6));
                        Check.due("its tithe is of what grew", due, x.town(0, 6));
                    }
                }
            }
        }
    }

    /** By parts all beyond the tithe is the same; each part's harm is cut by itself. */
    private static void greedInParts() {
        for (int part = 1; part <= 7; part++) {
            TaxFarm x = Check.held("town a plain means 50; company c honest coins 9; harvest h grows 100 odds 1; tithe 20;", 0, 9);
            x.year(0);
            int means = 50;
            for (int taken = part; taken <= 50; taken += part) {
                int added = Math.min(part, Math.max(0, taken - 10));
                Check.due("a part of " + part + " to " + taken, added, x.take(0, part));
                means -= added / 2;
                Check.due("means", means, x.town(0, 1));
                Check.due("GREED", Math.max(0, taken - 10), x.count(6));
                Check.due("taken", taken, x.town(0, 4));
            }
        }
        TaxFarm y = Check.held("town a plain means 50; town b plain means 50; company c honest coins 9; harvest h grows 100 odds 1;", 0, 9);
        for (int year = 1; year <= 5; year++) {
            y.year(0);
            y.take(0, y.town(0, 6) + 1);
            y.take(1, y.town(1, 6) + 2);
            Check.due("GREED of all YEARS", 3 * year, y.count(6));
        }
    }

    /** 'less by half, cut (a proud one's by all, a rich one's by a quarter, cut)'. */
    private static void harmByKind() {
        int[][] harm = {{0, 1, 1, 2, 2, 3, 3, 4, 4}, {0, 0, 0, 1, 1, 1, 1, 2, 2}, {1, 2, 3, 4, 5, 6, 7, 8, 9},
            {0, 1, 1, 2, 2, 3, 3, 4, 4}};
        for (int kind = 0; kind < 4; kind++) {
            for (int greed = 1; greed <= 9; greed++) {
                TaxFarm x = Check.held("town a " + KINDS[kind] + " means 90; company c honest coins 9; harvest h grows 100 odds 1;"
                        + "tithe 0;", 0, 9);
                x.year(0);
                Check.due("take", greed, x.take(0, greed));
                Check.due("means of a " + KINDS[kind] + " one by " + greed, 90 - harm[kind][greed - 1], x.town(0, 1));
            }
        }
    }

    /** '0 at least': its means were called down to 2 ahead of it. */
    private static void harmAtMost() {
        int[] by = {2, 4, 1, 2};
        for (int kind = 0; kind < 4; kind++) {
            for (int greed = by[kind]; greed <= 3 * by[kind]; greed++) {
                TaxFarm x = Check.held("town a " + KINDS[kind] + " means 10; company c honest coins 9; harvest h grows 300 odds 1;"
                        + "tithe 0; owes 9999;", 0, 9);
                x.year(0);
                Check.due("call", 9991, x.call(0, 8));
                Check.due("take", greed, x.take(0, greed));
                Check.due("a " + KINDS[kind] + " one of 2 by " + greed, Math.max(0, 2 - greed / by[kind]), x.town(0, 1));
            }
        }
    }

    /** A crop stays behind CLOSE and AWARD, with what was taken of it and who was spared. */
    private static void takesBehindALease() {
        TaxFarm x = Check.held("town a plain means 100; town b plain means 100; company c honest coins 9; company d honest coins 9;"
                + "harvest h grows 0 odds 1; harvest i grows 100 odds 1;", 0, 9);
        for (int i = 0; i < 4; i++) {
            x.year(0);
        }
        x.year(1);
        x.take(0, 10);
        x.spare(1);
        x.close();
        Check.due("nobody takes", -1, x.take(0, 1));
        x.bid(1, 1);
        x.award();
        Check.due("all beyond its tithe", 3, x.take(0, 3));
        Check.due("taken this YEAR", 13, x.town(0, 4));
        Check.due("to the next holder", 11, x.company(1, 1));
        Check.due("spared till the next YEAR", -1, x.take(1, 1));
        x.year(1);
        Check.due("not any more", 0, x.take(1, 1));
    }

    /** 'so many (1 to 9,999) of his coins (he has them)'. */
    private static void loansByCoins() {
        for (int coins = -1; coins <= 12; coins++) {
            TaxFarm x = Check.held("town a plain means 20; company c honest coins 19;", 0, 9);
            boolean can = coins >= 1 && coins <= 10;
            Check.due("lend(0, " + coins + ") of 10", can ? coins : -1, x.lend(0, coins));
            Check.due("coins", can ? 10 - coins : 10, x.company(0, 1));
            Check.due("means", can ? 20 + coins : 20, x.town(0, 1));
            Check.due("debt", can ? coins : 0, x.town(0, 3));
        }
        TaxFarm y = Check.held("town a plain means 20; company c honest coins 9;", 0, 9);
        Check.due("of no coins", -1, y.lend(0, 1));
        Check.due("of none", -1, y.lend(0, 0));
    }

    /** He has more than 9,999: 9,999 can be lent at once, 10,000 can't. */
    private static void loansBeyondAll() {
        TaxFarm x = Check.held("town a plain means 999; town b plain means 0; company c honest coins 9999; harvest h grows 300 odds 1;", 0, 1);
        x.year(0);
        x.take(0, 2997);
        Check.due("he has", 9998 + 2997, x.company(0, 1));
        Check.due("lend of 10000", -1, x.lend(1, 10000));
        Check.due("lend of 12995", -1, x.lend(1, 12995));
        Check.due("lend of 9999", 9999, x.lend(1, 9999));
        Check.due("means", 9999, x.town(1, 1));
        Check.due("coins", 2996, x.company(0, 1));
        Check.due("lend of 2997", -1, x.lend(0, 2997));
        Check.due("lend of 2996", 2996, x.lend(0, 2996));
    }

    /** 'to a TOWN's means (9,999 at most), its debt is as much more (9,999 at most)'. */
    private static void loansAtMost() {
        for (int more = 8999; more <= 9002; more++) {
            TaxFarm x = Check.held("town a plain means 999; company c honest coins 9999;", 0, 1);
            Check.due("lend of " + more, more, x.lend(0, more));
            Check.due("means", Math.min(9999, 999 + more), x.town(0, 1));
            Check.due("coins", 9998 - more, x.company(0, 1));
        }
        for (int law = 9996; law <= 9999; law++) {
            for (int more = 1; more <= 4; more++) {
                TaxFarm x = Check.held("town a plain means 5; company c honest coins 9; harvest h grows 0 odds 1; owes " + law + ";", 0, 1);
                x.year(0);
                Check.due("debt of " + law + " and " + more, Math.min(9999, law + more), x.lend(0, more));
                Check.due("its debt", Math.min(9999, law + more), x.town(0, 3));
                Check.due("means", 5 + more, x.town(0, 1));
                Check.due("coins", 8 - more, x.company(0, 1));
            }
        }
    }

    /** 'no more than its debt'. */
    private static void callsByDebt() {
        for (int coins = -1; coins <= 9; coins++) {
            TaxFarm x = Check.held("town a plain means 20; company c honest coins 9;", 0, 1);
            x.lend(0, 7);
            boolean can = coins >= 1 && coins <= 7;
            Check.due("call(0, " + coins + ") of 7", can ? 7 - coins : -1, x.call(0, coins));
            Check.due("debt", can ? 7 - coins : 7, x.town(0, 3));
            Check.due("means", can ? 27 - coins : 27, x.town(0, 1));
            Check.due("coins", can ? 1 + coins : 1, x.company(0, 1));
        }
        TaxFarm y = Check.held("town a plain means 20; company c honest coins 9;", 0, 1);
        Check.due("of no debt", -1, y.call(0, 1));
    }

    /** 'than its means', and 9,999 at most. */
    private static void callsByMeans() {
        for (int coins = 4; coins <= 8; coins++) {
            TaxFarm x = Check.held("town a plain means 6; company c honest coins 9; harvest h grows 0 odds 1; owes 9999;", 0, 1);
            x.year(0);
            boolean can = coins <= 6;
            Check.due("call(0, " + coins + ") of 6 means", can ? 9999 - coins : -1, x.call(0, coins));
            Check.due("means", can ? 6 - coins : 6, x.town(0, 1));
            Check.due("debt", can ? 9999 - coins : 9999, x.town(0, 3));
        }
        TaxFarm y = Check.held("town a plain means 999; company c honest coins 9999; harvest h grows 0 odds 1; owes 9999;", 0, 1);
        y.lend(0, 9000);
        y.year(0);
        Check.due("call of 10000", -1, y.call(0, 10000));
        Check.due("call of 9999", 0, y.call(0, 9999));
        Check.due("no means", 0, y.town(0, 1));
        Check.due("coins", 998 + 9999, y.company(0, 1));
        y.undo();
        y.call(0, 1);
        Check.due("call of 9999 then", -1, y.call(0, 9999));
        Check.due("call of 9998", 0, y.call(0, 9998));
        TaxFarm w = Check.held("town a plain means 0; company c honest coins 9; harvest h grows 0 odds 1; owes 9;", 0, 1);
        w.year(0);
        Check.due("of no means", -1, w.call(0, 1));
    }

    private static void gives(String kind, String law, int want) {
        TaxFarm x = Check.held("town a " + kind + " means 50; company c honest coins 9; alone " + law + ";", 0, 9);
        Check.due("a " + kind + " one by " + law, want, x.spare(0));
        Check.due("means", 50 - want, x.town(0, 1));
        Check.due("coins", want, x.company(0, 1));
        Check.due("spared", 1, x.town(0, 5));
        Check.due("spared already", -1, x.spare(0));
    }

    /** 'the E of alone (0 at least; its means at most)'. */
    private static void gifts() {
        for (String kind : new String[] {"plain", "proud", "port"}) {
            String[] laws = {"0-9999*9999", "0-2", "0-1", "0", "1", "49", "50", "51", "9999", "wealth", "wealth+1", "wealth-1", "debt",
                "crop", "4096*4096*128", "4096*4096*128-1", "4096*4096*64", "9999*9999*22"};
            int[] want = {0, 0, 0, 0, 1, 49, 50, 50, 50, 50, 50, 49, 0, 0, 0, 50, 50, 0};
            for (int i = 0; i < laws.length; i++) {
                gives(kind, laws[i], want[i]);
            }
        }
        Check.due("without a law", 20, Check.held("town a plain means 50; company c fair coins 9;", 0, 9).spare(0));
        Check.due("without a law, of 20", 20, Check.held("town a plain means 20; company c fair coins 9;", 0, 9).spare(0));
        Check.due("without a law, of 19", 19, Check.held("town a plain means 19; company c fair coins 9;", 0, 9).spare(0));
        Check.due("without a law, of 0", 0, Check.held("town a plain means 0; company c fair coins 9;", 0, 9).spare(0));
    }

    /** 'a rich one twice that; its means at most'. */
    private static void giftsOfRichOnes() {
        String[] laws = {"0-1", "0", "1", "24", "25", "26", "50", "9999", "wealth", "4096*4096*128-1", "4096*4096*64", "4096*4096*128"};
        int[] want = {0, 0, 2, 48, 50, 50, 50, 50, 50, 50, 50, 0};
        for (int i = 0; i < laws.length; i++) {
            gives("rich", laws[i], want[i]);
        }
        Check.due("odd means at most", 7, Check.held("town a rich means 7; company c fair coins 9; alone 4;", 0, 9).spare(0));
        Check.due("odd means, less", 6, Check.held("town a rich means 7; company c fair coins 9; alone 3;", 0, 9).spare(0));
        Check.due("without a law", 40, Check.held("town a rich means 50; company c fair coins 9;", 0, 9).spare(0));
    }

    private static void sparedTillTheNextYear() {
        TaxFarm x = Check.held("town a plain means 99; town b plain means 99; company c honest coins 9; harvest h grows 100 odds 1;"
                + "alone 0;", 0, 9);
        Check.due("ahead of a YEAR", 0, x.spare(0));
        x.year(0);
        Check.due("not spared in the next", 0, x.town(0, 5));
        Check.due("spared in it", 0, x.spare(0));
        Check.due("it alone", 0, x.town(1, 5));
        Check.due("nothing of it", -1, x.take(0, 1));
        Check.due("of another one", 0, x.take(1, 1));
        Check.due("its debt can be more", 1, x.lend(0, 1));
        Check.due("and called", 0, x.call(0, 1));
        Check.due("let go", 1, x.sue());
        Check.due("a suit ends it not", 1, x.town(0, 5));
        x.undo();
        x.undo();
        x.undo();
        x.undo();
        Check.due("spared still", 1, x.town(0, 5));
        x.undo();
        Check.due("undone", 0, x.town(0, 5));
        Check.due("taken from", 0, x.take(0, 9));
        Check.due("spared behind that", 0, x.spare(0));
        Check.due("taken stays", 9, x.town(0, 4));
    }

    /** 'he pays a JUROR who is not bribed his price (he has it)'. */
    private static void bribesByCoins() {
        for (int coins = 0; coins <= 3; coins++) {
            for (int price = 0; price <= 4; price++) {
                TaxFarm x = Check.held("company c honest coins " + (coins + 1) + "; juror j holds c price " + price + ";", 0, 1);
                boolean can = price <= coins;
                Check.due("a price of " + price + " of " + coins, can, x.bribe(0));
                Check.due("coins", can ? coins - price : coins, x.company(0, 1));
                Check.due("bribed", can ? 1 : 0, x.juror(0, 2));
                Check.due("the state has nothing of it", 1, x.count(7));
                Check.due("bribed already", false, x.bribe(0));
            }
        }
        TaxFarm y = Check.held("company c honest coins 1000; juror j holds c price 999;", 0, 1);
        Check.due("the highest price", true, y.bribe(0));
        Check.due("coins", 0, y.company(0, 1));
    }

    private static void bribesOfAll() {
        TaxFarm x = Check.held("company c honest coins 99; juror j holds c price 1; juror k holds c price 2; juror l holds c price 3;"
                + "juror m holds c price 4; juror n holds c price 5;", 0, 1);
        for (int i = 4; i >= 0; i--) {
            Check.due("bribe(" + i + ")", true, x.bribe(i));
            for (int other = 0; other < 5; other++) {
                Check.due("bribed " + other, other >= i ? 1 : 0, x.juror(other, 2));
            }
        }
        Check.due("bribe(5)", false, x.bribe(5));
        Check.due("coins", 98 - 15, x.company(0, 1));
    }

    private static TaxFarm greedy(String sort, int bar, int greed, String jurors) {
        TaxFarm x = Check.held("company c " + sort + " coins 9; company z honest coins 9; town a plain means 999;"
                + "harvest h grows 300 odds 1; tithe 0; bar " + bar + ";" + jurors, 0, 1);
        x.year(0);
        if (greed > 0) {
            Check.due("greed", greed, x.take(0, greed));
        }
        return x;
    }

    /** 'or all if GREED is no more than the bar (of a fair COMPANY twice the bar)'. */
    private static void suitsByGreed() {
        for (int bar : new int[] {0, 1, 7, 999}) {
            for (String sort : new String[] {"honest", "noble", "fair"}) {
                int most = sort.equals("fair") ? 2 * bar : bar;
                for (int greed = Math.max(0, most - 1); greed <= most + 1; greed++) {
                    TaxFarm x = greedy(sort, bar, greed, "juror j holds z price 1;");
                    Check.due("a " + sort + " one by " + greed + " at " + bar, greed <= most ? 1 : 0, x.juror(0, 3));
                    Check.due("sued", greed <= most ? 1 : 0, x.sue());
                    Check.due("holder", greed <= most ? 0 : -1, x.holder());
                    Check.due("GREED is 0", 0, x.count(6));
                }
            }
        }
    }

    /** 'if as many let him go as do not, or more': so many friends of so many JURORS. */
    private static void suitsByJurors() {
        for (int jurors = 0; jurors <= 5; jurors++) {
            for (int holds = 0; holds <= jurors; holds++) {
                for (int bribed = 0; bribed <= jurors - holds; bribed++) {
                    StringBuilder told = new StringBuilder();
                    for (int i = 0; i < jurors; i++) {
                        told.append("juror j").append((char) ('a' + i)).append(i < holds ? " holds c" : " holds z").append(" price 0;");
                    }
                    TaxFarm x = greedy("honest", 3, 4, told.toString());
                    for (int i = 0; i < bribed; i++) {
                        x.bribe(holds + i);
                    }
                    boolean free = 2 * (holds + bribed) >= jurors;
                    int coins = x.company(0, 1);
                    Check.due(holds + " and " + bribed + " of " + jurors, free ? 1 : 0, x.sue());
                    Check.due("coins", free ? coins : coins - 8, x.company(0, 1));
                    Check.due("holder", free ? 0 : -1, x.holder());
                }
            }
        }
    }

    /** 'he pays twice the GREED to the state (as far as he has it)'. */
    private static void suitsByCoins() {
        for (int coins = 18; coins <= 22; coins++) {
            TaxFarm y = Check.held("company c honest coins " + (coins - 10 + 1) + "; company z honest coins 9; town a plain means 99;"
                    + "harvest h grows 300 odds 1; tithe 0; juror j holds z price 1;", 0, 1);
            y.year(0);
            y.take(0, 10);
            Check.due("coins", coins, y.company(0, 1));
            Check.due("sued", 0, y.sue());
            Check.due("what is left of " + coins, Math.max(0, coins - 20), y.company(0, 1));
            Check.due("the state", 1 + Math.min(20, coins), y.count(7));
            Check.due("no GREED", 0, y.count(6));
        }
        TaxFarm w = greedy("honest", 0, 1, "juror j holds z price 1;");
        w.lend(0, w.company(0, 1));
        Check.due("of no coins", 0, w.sue());
        Check.due("the state has nothing of it", 1, w.count(7));
        Check.due("nobody holds it", -1, w.holder());
        Check.due("sued again", -1, w.sue());
    }

    /** 'Either way nobody is bribed then'. */
    private static void suitsEndBribes() {
        for (int bribed = 0; bribed <= 2; bribed++) {
            TaxFarm x = greedy("honest", 0, 9, "juror j holds z price 0; juror k holds z price 0; juror l holds z price 0;");
            for (int i = 0; i < bribed; i++) {
                x.bribe(i);
            }
            Check.due("sued with " + bribed, bribed >= 2 ? 1 : 0, x.sue());
            for (int i = 0; i < 3; i++) {
                Check.due("bribed", 0, x.juror(i, 2));
                Check.due("would let go", bribed >= 2 ? 1 : -1, x.juror(i, 3));
            }
            Check.due("undo", true, x.undo());
            for (int i = 0; i < 3; i++) {
                Check.due("bribed again", i < bribed ? 1 : 0, x.juror(i, 2));
            }
            Check.due("GREED again", 9, x.count(6));
        }
    }

    private static Supplier<TaxFarm> made(int steps) {
        return () -> {
            TaxFarm x = Check.farm(SOME);
            x.tale(0, 5);
            x.mark(2, false);
            for (int i = 0; i < steps; i++) {
                step(x, i);
            }
            return x;
        };
    }

    private static void step(TaxFarm x, int step) {
        switch (step) {
            case 0: x.bid(0, 40); break;
            case 1: x.award(); break;
            case 3: x.take(0, 30); break;
            case 4: x.lend(1, 6); break;
            case 5: x.spare(1); break;
            case 6: x.bribe(0); break;
            case 11: x.close(); break;
            default: x.year(0);
        }
    }

    private static void refused(String call, long want, int steps, ToLongFunction<TaxFarm> called) {
        Look.refused(call + " behind " + steps + " steps", want, made(steps), called);
    }

    /** 'if somebody holds it': each of them, ahead of an AWARD and behind CLOSE. */
    private static void refusedWhenNobodyHolds() {
        for (int steps : new int[] {0, 1, 12}) {
            refused("take(0, 1)", -1, steps, x -> x.take(0, 1));
            refused("lend(0, 1)", -1, steps, x -> x.lend(0, 1));
            refused("call(1, 1)", -1, steps, x -> x.call(1, 1));
            refused("spare(0)", -1, steps, x -> x.spare(0));
            refused("bribe(2)", 0, steps, x -> Look.bit(x.bribe(2)));
            refused("sue()", -1, steps, TaxFarm::sue);
        }
    }

    private static void refusedOthers() {
        for (int i : new int[] {-1, 2, 6, Integer.MIN_VALUE, Integer.MAX_VALUE}) {
            refused("take(" + i + ", 1)", -1, 7, x -> x.take(i, 1));
            refused("lend(" + i + ", 1)", -1, 7, x -> x.lend(i, 1));
            refused("call(" + i + ", 1)", -1, 7, x -> x.call(i, 1));
            refused("spare(" + i + ")", -1, 7, x -> x.spare(i));
        }
        for (int i : EXTREME) {
            refused("bribe(" + i + ")", 0, 7, x -> Look.bit(x.bribe(i)));
            refused("take(0, " + i + ")", -1, 7, x -> x.take(0, i));
            refused("lend(0, " + i + ")", -1, 7, x -> x.lend(0, i));
            refused("call(1, " + i + ")", -1, 7, x -> x.call(1, i));
        }
        refused("take of nothing", -1, 7, x -> x.take(0, 0));
        refused("take of more than it has", -1, 7, x -> x.take(0, 61));
        refused("take of a spared one", -1, 7, x -> x.take(1, 1));
        refused("lend of nothing", -1, 7, x -> x.lend(0, 0));
        refused("lend of more than he has", -1, 7, x -> x.lend(0, x.company(0, 1) + 1));
        refused("call of nothing", -1, 7, x -> x.call(1, 0));
        refused("call of more than its debt", -1, 7, x -> x.call(1, 8));
        refused("call of no debt", -1, 2, x -> x.call(1, 1));
        refused("spare of a spared one", -1, 7, x -> x.spare(1));
        refused("bribe of a bribed one", 0, 7, x -> Look.bit(x.bribe(0)));
        refused("bribe of a dear one", 0, 7, x -> Look.bit(x.bribe(3)));
        refused("bribe of no such one", 0, 7, x -> Look.bit(x.bribe(4)));
    }
}
