/** Promise 3 (province), its faults, and what promises 5 to 7 tell of it. */
public final class ProvinceTest {
    public static void main(String[] args) {
        told();
        ranges();
        names();
        tooMany();
        once();
        structure();
        expressions();
        depth();
        leastOfFirst();
        anew();
        nothingLeftOver();
        usualLaws();
        stays();
        staysByEveryFault();
        Check.end();
    }

    private static void fault(String text, int kind, int place) {
        TaxFarm x = new TaxFarm();
        Check.due("province: " + text, kind + 16 * place, Check.province(x, text));
    }

    private static void good(String text) {
        Check.farm(text);
    }

    private static void told() {
        TaxFarm x = Check.farm("company c fair coins 9999; company d straw coins 0; juror j holds d price 999;"
                + "town a port means 999; town b plain means 0; company e noble coins 7; town p proud means 1;"
                + "town r rich means 2; company f honest coins 8; harvest h grows 300 odds 9; juror k holds c price 0;");
        int[] kinds = {3, 0, 2, 1};
        int[] means = {999, 0, 1, 2};
        for (int i = 0; i < 4; i++) {
            Check.due("kind of town " + i, kinds[i], x.town(i, 0));
            Check.due("means of town " + i, means[i], x.town(i, 1));
            for (int what = 2; what <= 6; what++) {
                Check.due("town(" + i + ", " + what + ")", 0, x.town(i, what));
            }
        }
        int[] sorts = {3, 1, 2, 0};
        int[] coins = {9999, 0, 7, 8};
        for (int i = 0; i < 4; i++) {
            Check.due("sort of company " + i, sorts[i], x.company(i, 0));
            Check.due("coins of company " + i, coins[i], x.company(i, 1));
            Check.due("bid of company " + i, 0, x.company(i, 2));
        }
        Check.due("shares of juror 0", 1, x.juror(0, 0));
        Check.due("price of juror 0", 999, x.juror(0, 1));
        Check.due("bribed juror 0", 0, x.juror(0, 2));
        Check.due("juror 0 would let go nobody", -1, x.juror(0, 3));
        Check.due("shares of juror 1", 0, x.juror(1, 0));
        Check.due("price of juror 1", 0, x.juror(1, 1));
        int[] wrong = {-1, 4, Integer.MIN_VALUE, Integer.MAX_VALUE};
        for (int i : wrong) {
            Check.due("town(" + i + ", 0)", -1, x.town(i, 0));
            Check.due("company(" + i + ", 0)", -1, x.company(i, 0));
            Check.due("juror(" + i + ", 0)", -2, x.juror(i, 0));
        }
        Check.due("town(0, -1)", -1, x.town(0, -1));
        Check.due("town(0, 7)", -1, x.town(0, 7));
        Check.due("company(0, -1)", -1, x.company(0, -1));
        Check.due("company(0, 3)", -1, x.company(0, 3));
        Check.due("juror(0, -1)", -2, x.juror(0, -1));
        Check.due("juror(0, 4)", -2, x.juror(0, 4));
        Check.due("juror(2, 3)", -2, x.juror(2, 3));
    }

    private static void ranges() {
        fault("town a plain means 1000;", 4, 19);
        fault("company a fair coins 10000;", 1, 21);
        fault("harvest h grows 301 odds 1;", 4, 16);
        fault("harvest h grows 0 odds 0;", 4, 23);
        fault("harvest h grows 0 odds 10;", 4, 23);
        fault("company c fair coins 1; juror j holds c price 1000;", 4, 46);
        fault("tithe 101;", 4, 6);
        fault("bar 1000;", 4, 4);
        good("tithe 100; bar 999;");
        good("tithe 0; bar 0; harvest h grows 0 odds 1; company c fair coins 0; juror j holds c price 0;");
    }

    private static void names() {
        for (String word : Check.RESERVED) {
            fault("town " + word + " plain means 1;", 1, 5);
        }
        for (String word : "wealth crop debt a abcdefgh".split(" ")) {
            good("town " + word + " plain means 1;");
        }
        fault("town a plain means 1; town a plain means 1;", 3, 27);
        fault("town a plain means 1; company a fair coins 1;", 3, 30);
        fault("town a plain means 1; harvest a grows 1 odds 1;", 3, 30);
        fault("company c fair coins 1; juror c holds c price 1;", 3, 30);
        fault("harvest h grows 1 odds 1; town h plain means 1;", 3, 31);
        fault("company c fair coins 1; juror j holds c price 1; harvest j grows 1 odds 1;", 3, 57);
        fault("company c fair coins 1; company c fair coins 1;", 3, 32);
        fault("juror j holds c price 1; company c fair coins 1;", 2, 14);
        fault("town a plain means 1; juror j holds a price 1;", 2, 36);
        fault("juror j holds j price 1;", 2, 14);
        fault("juror j holds plain price 1;", 1, 14);
        fault("juror j holds 5 price 1;", 1, 14);
        fault("town 5 plain means 1;", 1, 5);
    }

    private static void tooMany() {
        StringBuilder towns = new StringBuilder();
        StringBuilder companies = new StringBuilder();
        StringBuilder harvests = new StringBuilder();
        StringBuilder jurors = new StringBuilder("company x fair coins 1;");
        for (char c = 'a'; c <= 'e'; c++) {
            towns.append("town ").append(c).append(" port means 1;");
            companies.append("company ").append(c).append(" fair coins 1;");
            harvests.append("harvest ").append(c).append(" grows 1 odds 1;");
            jurors.append("juror ").append(c).append(" holds x price 1;");
        }
        towns.append("town f port means 1;");
        good(towns.toString());
        good(companies.toString());
        good(harvests.toString());
        good(jurors.toString());
        fault(towns + "town", 5, towns.length());
        fault(companies + "company", 5, companies.length());
        fault(harvests + " harvest a", 5, harvests.length() + 1);
        fault(jurors + "juror", 5, jurors.length());
    }

    private static void once() {
        fault("tithe 1; tithe", 3, 9);
        fault("bar 1; bar 2;", 3, 7);
        fault("alone 1; alone", 3, 9);
        fault("owes 1; tithe 1; owes", 3, 17);
        good("owes 1; tithe 1; bar 1; alone 1;");
    }

    private static void structure() {
        fault("province", 1, 0);
        fault("; ", 1, 0);
        fault("town", 1, 4);
        fault("town a", 1, 6);
        fault("town a big means 1;", 1, 7);
        fault("town a honest means 1;", 1, 7);
        fault("town a plain coins 1;", 1, 13);
        fault("town a plain means ;", 1, 19);
        fault("town a plain means 1", 1, 20);
        fault("town a plain means 1 2;", 1, 21);
        fault("company a plain coins 1;", 1, 10);
        fault("harvest h odds 1 grows 1;", 1, 10);
        fault("company c fair coins 1; juror j c price 1;", 1, 32);
        fault("tithe x;", 1, 6);
        fault("bid a 1;", 1, 0);
        fault("tithe 1;;", 1, 8);
    }

    private static void expressions() {
        good("alone 1; owes wealth + crop * debt - 1 < 2 and not 1 or ( 3 = 3 );");
        fault("alone ;", 1, 6);
        fault("alone", 1, 5);
        fault("alone 1 < 2 < 3;", 1, 12);
        fault("alone 1 = 2 < 3;", 1, 12);
        fault("alone 1 < 2 = 3 and 1;", 1, 12);
        good("alone 1 < 2 and 2 = 3 or ( 1 < 2 ) < 3;");
        fault("alone - 1;", 1, 6);
        fault("alone 1 + + 1;", 1, 10);
        fault("alone 1 1;", 1, 8);
        fault("alone ( 1 ;", 1, 10);
        fault("alone 1 );", 1, 8);
        fault("alone ();", 1, 7);
        fault("alone means;", 1, 6);
        fault("alone not;", 1, 9);
        fault("alone 1 not 1;", 1, 8);
        fault("alone 1 and;", 1, 11);
        fault("alone and 1;", 1, 6);
        fault("alone 10000;", 1, 6);
        fault("town a plain means 1; alone a;", 1, 28);
    }

    private static void depth() {
        good("alone not not not not 1;");
        good("alone ((((1))));");
        good("alone (not (not 1 + 1) * 2) < 3;");
        good("alone ((((1+2*3<4 and 5))))+((((1))));");
        fault("alone not not not not not 1;", 5, 26);
        fault("alone not not not not not not 1;", 5, 26);
        fault("alone (((((1)))));", 5, 11);
        fault("alone ((((((1))))));", 5, 11);
        fault("alone (((((crop", 5, 11);
        fault("alone not(not(wealth;", 1, 20);
        good("alone not(not(wealth));");
        fault("alone not(not(not wealth));", 5, 18);
        fault("alone not(not(1+not 2));", 5, 20);
        fault("alone (not(not(wealth)));", 5, 15);
        fault("alone not not(not(1)+(2))", 5, 18);
    }

    private static void leastOfFirst() {
        fault("alone not not not not not ;", 1, 26);
        fault("alone (((((foo", 1, 11);
        fault("tithe 999; bogus", 4, 6);
        fault("town a plain means 1; town a bogus", 3, 27);
        fault("tithe 1; tithe 999;", 3, 9);
    }

    private static void anew() {
        TaxFarm x = Check.farm("town a plain means 100; company c fair coins 50; harvest h grows 100 odds 1;"
                + "juror j holds c price 1; tithe 50; bar 3;");
        Check.due("past", 0, Check.past(x, "award;"));
        x.bid(0, 10);
        x.award();
        x.year(0);
        x.take(0, 100);
        x.lend(0, 5);
        x.bribe(0);
        x.tale(0, 5);
        x.mark(2, false);
        Check.due("province anew", 0, Check.province(x, "town b rich means 7; company d straw coins 4;"));
        int[] counts = {1, 1, 0, 0, 0, 0, 0, 0, 7, 0, 0, 0, 0};
        for (int what = 0; what < counts.length; what++) {
            Check.due("anew: count(" + what + ")", counts[what], x.count(what));
        }
        int[] town = {1, 7, 0, 0, 0, 0, 0};
        for (int what = 0; what < town.length; what++) {
            Check.due("anew: town(0, " + what + ")", town[what], x.town(0, what));
        }
        Check.due("anew: holder", -1, x.holder());
        Check.due("anew: coins", 4, x.company(0, 1));
        Check.due("anew: undo", false, x.undo());
        for (int mark = 0; mark < 4; mark++) {
            Check.due("anew: mark " + mark, false, x.mark(mark, true));
        }
        Check.due("tithe, bar and laws are the usual ones again", 0,
                Check.province(x, "town a plain means 100; company c honest coins 50; harvest h grows 100 odds 1;"
                        + "juror j holds c price 0; juror k holds c price 0;"));
        Check.due("tithe 10", 10, x.worth(1));
        x.bid(0, 1);
        x.award();
        x.lend(0, 5);
        x.year(0);
        Check.due("debt stays", 5, x.town(0, 3));
        Check.due("alone 20", 20, x.spare(0));
        Check.due("nothing told", 0, x.province());
        Check.due("no towns", 0, x.count(0));
    }

    private static final String BIG = "town a plain means 999; town b port means 999; town c rich means 999;"
            + "town d plain means 999; town e port means 999; town f rich means 999; company g noble coins 9999;"
            + "company h noble coins 9999; company i fair coins 9999; company j fair coins 9999; company k fair coins 9999;"
            + "harvest l grows 200 odds 9; harvest m grows 200 odds 9; harvest n grows 200 odds 9; harvest o grows 9 odds 9;"
            + "harvest p grows 9 odds 9; juror q holds g price 9; juror r holds g price 9; juror s holds g price 9;"
            + "juror t holds g price 9; juror u holds g price 9; tithe 90; bar 999; alone 7; owes debt + 9;";

    /** A province tells nothing of the ones ahead of it, whatever was done in them. */
    private static void nothingLeftOver() {
        TaxFarm x = new TaxFarm();
        for (int i = 0; i < 3; i++) {
            Check.due("big", 0, Check.province(x, BIG));
            x.bid(0, 100);
            x.award();
            x.lend(0, 50);
            x.year(0);
            x.take(0, 999);
            x.spare(1);
            x.bribe(0);
            x.sue();
            x.bribe(1);
            Check.due("big again", 0, Check.province(x, BIG));
            for (int c = 0; c < 5; c++) {
                x.bid(c, 50 + c);
                x.tale(c, 1);
            }
        }
        Check.due("small", 0, Check.province(x, "town a plain means 10; town b plain means 10; company c honest coins 90;"
                + "company d honest coins 90; harvest h grows 100 odds 1; juror j holds d price 5; juror k holds d price 4;"
                + "tithe 100;"));
        Check.due("means", 20, x.count(8));
        Check.due("tithe of no crop", 0, x.town(0, 6));
        Check.due("nobody is spared", 0, x.town(1, 5));
        Check.due("nobody is bribed", 0, x.juror(0, 2));
        Check.due("nobody is bribed", 0, x.juror(1, 2));
        Check.due("no bids", 0, x.company(1, 2));
        Check.due("no bids", -2, x.award());
        Check.due("all harvests", 1, x.secret());
        Check.due("worth", 20, x.worth(1));
        Check.due("no tales", 0, x.count(10));
        int mean = x.lustra(3, 20, 2);
        x.bid(0, 9);
        Check.due("agree", 8, x.agree(0, 1));
        Check.due("award", 0, x.award());
        Check.due("year", 20, x.year(0));
        x.take(0, 10);
        x.undo();
        Check.province(x, "town a plain means 10; company c honest coins 90; company d honest coins 90; tithe 0;"
                + "harvest h grows 100 odds 1; juror j holds d price 5; juror k holds d price 4;");
        x.bid(0, 9);
        x.award();
        x.year(0);
        Check.due("no bar", 1, x.juror(0, 3));
        x.take(0, 1);
        Check.due("no bar", 0, x.juror(0, 3));
        Check.due("free", 4, x.free(0));
        Check.due("free", 2, x.free(1));
        Check.due("sue", 0, x.sue());
        TaxFarm y = Check.farm("town a plain means 10; town b plain means 10; company c honest coins 90;"
                + "company d honest coins 90; harvest h grows 100 odds 1; juror j holds d price 5; juror k holds d price 4;"
                + "tithe 100;");
        Check.due("lustra", y.lustra(3, 20, 2), mean);
        String two = "town a plain means 90; company c honest coins 90; harvest g grows 200 odds 1; harvest h grows 10 odds 1;";
        Check.due("two harvests", 0, Check.province(x, two));
        Check.due("two harvests", Check.farm(two).lustra(8, 20, 2), x.lustra(8, 20, 2));
    }

    private static void usualLaws() {
        TaxFarm x = new TaxFarm();
        for (int i = 0; i < 3; i++) {
            Check.due("laws", 0, Check.province(x, "alone 3; owes 5; tithe 70; bar 9;"));
        }
        Check.due("none", 0, Check.province(x, "town a plain means 100; company c honest coins 9; company d fair coins 9;"
                + "juror j holds d price 0; harvest h grows 100 odds 1;"));
        x.bid(0, 9);
        x.award();
        x.year(0);
        Check.due("nothing is owed", 0, x.town(0, 3));
        Check.due("tithe", 10, x.town(0, 6));
        x.take(0, 11);
        Check.due("bar 0", 0, x.juror(0, 3));
        Check.due("alone 20", 20, x.spare(0));
    }

    /** Every fault leaves the province, wherever in a statement it lies. */
    private static void staysByEveryFault() {
        TaxFarm x = Check.farm("town a plain means 100; company c fair coins 50; juror j holds c price 3;");
        String[] faulty = {"x", "town", "town b", "town b plain", "town b plain means", "town b plain means 1000",
            "town b plain means 1", "company", "company b", "company b fair", "company b fair coins", "company b fair coins 5",
            "harvest", "harvest b", "harvest b grows", "harvest b grows 301", "harvest b grows 1", "harvest b grows 1 odds",
            "harvest b grows 1 odds 0", "harvest b grows 1 odds 1", "juror", "juror b", "juror b holds", "juror b holds a",
            "tithe", "tithe 101", "tithe 5", "bar", "bar 1000", "bar 5", "alone", "alone 1", "alone (1", "alone 1+", "alone not",
            "alone 1 <", "alone 1 and", "alone 1*", "owes", "owes (((((1", "tithe 1; tithe"};
        for (String text : faulty) {
            Check.due("a fault: " + text, true, Check.province(x, text) != 0);
            Check.due("stays: " + text, 100, x.town(0, 1));
            Check.due("stays: " + text, 3, x.juror(0, 1));
            if (!text.endsWith(";")) {
                Check.due("a fault: " + text + ",", true, Check.province(x, text + ",;") != 0);
                Check.due("stays: " + text + ",", 100, x.town(0, 1));
            }
        }
    }

    private static void stays() {
        TaxFarm x = Check.farm("town a plain means 100; company c fair coins 50; tithe 20;");
        x.bid(0, 9);
        x.tale(0, 3);
        x.mark(1, false);
        Check.due("a fault", 4 + 16 * 48, Check.province(x, "town b rich means 5; company d fair coins 1; bar1000;"));
        Check.due("count(0)", 1, x.count(0));
        Check.due("kind", 0, x.town(0, 0));
        Check.due("means", 100, x.town(0, 1));
        Check.due("bid", 9, x.company(0, 2));
        Check.due("undo is there", 1, x.count(11));
        Check.due("tale is there", 1, x.count(10));
        Check.due("mark is there", true, x.mark(1, true));
    }
}
