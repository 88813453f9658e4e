/** Promises 5 to 18: what is done by hand, and what is told of it. */
public final class HandTest {
    private static final int[] WRONG = {-1, 9, Integer.MIN_VALUE, Integer.MAX_VALUE};

    public static void main(String[] args) {
        bids();
        awards();
        years();
        takes();
        greedByKind();
        loans();
        sparing();
        bribes();
        suits();
        suitsByCount();
        closing();
        limits();
        Check.end();
    }

    private static void bids() {
        TaxFarm x = Check.farm("company a honest coins 50; company b straw coins 9999;");
        Check.due("bid of all coins", true, x.bid(0, 50));
        Check.due("company(0, 2)", 50, x.company(0, 2));
        Check.due("bid of more coins than it has", false, x.bid(0, 51));
        Check.due("it stays", 50, x.company(0, 2));
        Check.due("coins stay", 50, x.company(0, 1));
        Check.due("bid of 9999", true, x.bid(1, 9999));
        Check.due("bid of 10000", false, x.bid(1, 10000));
        Check.due("bid of -1", false, x.bid(1, -1));
        Check.due("bid of 0", true, x.bid(0, 0));
        Check.due("company(0, 2)", 0, x.company(0, 2));
        for (int i : WRONG) {
            Check.due("bid(" + i + ", 1)", false, x.bid(i, 1));
        }
        Check.due("bids are no award", -1, x.holder());
        TaxFarm y = Check.held("company a honest coins 50; company b fair coins 9;", 0, 3);
        Check.due("bid when it is held", false, y.bid(1, 1));
        Check.due("bid of the holder", false, y.bid(0, 1));
    }

    private static void awards() {
        TaxFarm x = Check.farm("company a honest coins 50; company b noble coins 50; company c straw coins 50;"
                + "company d fair coins 50; juror j holds a price 1;");
        Check.due("award without bids", -2, x.award());
        x.bid(0, 0);
        Check.due("award of a bid of 0", -2, x.award());
        x.bid(1, 7);
        x.bid(3, 7);
        x.bid(0, 6);
        Check.due("the first of equal ones", 1, x.award());
        Check.due("holder", 1, x.holder());
        Check.due("a noble one pays three quarters, cut", 45, x.company(1, 1));
        Check.due("the state has it", 5, x.count(7));
        for (int i = 0; i < 4; i++) {
            Check.due("no bid of " + i, 0, x.company(i, 2));
        }
        Check.due("others pay nothing", 50, x.company(3, 1));
        Check.due("award when it is held", -2, x.award());
        TaxFarm y = Check.farm("company s straw coins 50; company b fair coins 50;");
        y.bid(0, 9);
        y.bid(1, 9);
        Check.due("a straw's", -1, y.award());
        Check.due("nobody holds it", -1, y.holder());
        Check.due("a straw pays nothing", 50, y.company(0, 1));
        Check.due("the state has nothing", 0, y.count(7));
        Check.due("no bid of the other one", 0, y.company(1, 2));
        y.bid(1, 8);
        y.bid(0, 7);
        Check.due("a fair one", 1, y.award());
        Check.due("a fair one pays all", 42, y.company(1, 1));
        Check.due("the state has it", 8, y.count(7));
    }

    private static void years() {
        TaxFarm x = Check.farm("town a plain means 101; town p port means 15; company c honest coins 9;"
                + "harvest h grows 50 odds 1; harvest z grows 0 odds 1; tithe 30; owes debt + 2 * crop + wealth;");
        Check.due("year when nobody holds it", -1, x.year(0));
        x.bid(0, 2);
        x.award();
        for (int i : WRONG) {
            Check.due("year(" + i + ")", -1, x.year(i));
        }
        Check.due("year(0)", 50 + 17, x.year(0));
        Check.due("crop of a plain one", 50, x.town(0, 2));
        Check.due("crop of a port", 17, x.town(1, 2));
        Check.due("tithe", 15, x.town(0, 6));
        Check.due("a port's tithe", 5, x.town(1, 6));
        Check.due("debt by the law, without a crop", 101, x.town(0, 3));
        x.take(0, 3);
        x.spare(1);
        Check.due("taken", 3, x.town(0, 4));
        Check.due("spared", 1, x.town(1, 5));
        Check.due("year(1)", 10, x.year(1));
        Check.due("half of what is left comes to the means", 101 + 23, x.town(0, 1));
        Check.due("debt", 101 + 124, x.town(0, 3));
        Check.due("nothing is taken", 0, x.town(0, 4));
        Check.due("nobody is spared", 0, x.town(1, 5));
        Check.due("no crop but for a port", 0, x.town(0, 2));
        Check.due("a port's crop", 10, x.town(1, 2));
        x.year(1);
        x.year(1);
        Check.due("the fifth", 10, x.year(1));
        Check.due("a sixth", -1, x.year(1));
        Check.due("years in all", 5, x.count(4));
        Check.due("years had", 5, x.count(5));
        x.close();
        x.bid(0, 1);
        x.award();
        Check.due("years had by the next", 0, x.count(5));
        Check.due("its first", 10, x.year(1));
        Check.due("years in all", 6, x.count(4));
    }

    private static void takes() {
        TaxFarm x = Check.farm("town a plain means 100; town b plain means 100; company c honest coins 9;"
                + "harvest h grows 100 odds 1;");
        Check.due("take when nobody holds it", -1, x.take(0, 1));
        x.bid(0, 9);
        x.award();
        Check.due("take without a crop", -1, x.take(0, 1));
        x.year(0);
        for (int i : WRONG) {
            Check.due("take(" + i + ", 1)", -1, x.take(i, 1));
        }
        Check.due("take of 0", -1, x.take(0, 0));
        Check.due("take of -1", -1, x.take(0, -1));
        Check.due("take of more than it has", -1, x.take(0, 101));
        Check.due("take of the tithe", 0, x.take(0, 10));
        Check.due("means stay", 100, x.town(0, 1));
        Check.due("take of 3 more", 3, x.take(0, 3));
        Check.due("half of it, cut", 99, x.town(0, 1));
        Check.due("take of 1 more", 1, x.take(0, 1));
        Check.due("half of 1 is nothing", 99, x.town(0, 1));
        Check.due("what it has", 86, x.town(0, 2));
        Check.due("taken", 14, x.town(0, 4));
        Check.due("to the holder", 14, x.company(0, 1));
        Check.due("greed", 4, x.count(6));
        Check.due("take of all", 86, x.take(0, 86));
        Check.due("take of nothing left", -1, x.take(0, 1));
        Check.due("tithe is of what grew", 10, x.town(0, 6));
        Check.due("another one", 2, x.take(1, 12));
        Check.due("greed together", 92, x.count(6));
        x.spare(1);
        Check.due("take of a spared one", -1, x.take(1, 1));
    }

    private static void greedByKind() {
        TaxFarm x = Check.held("town a plain means 100; town b rich means 100; town c proud means 100; town d port means 100;"
                + "town e proud means 10; company z honest coins 9; harvest h grows 100 odds 1; tithe 0;", 0, 9);
        x.year(0);
        int[] means = {97, 99, 93, 97};
        for (int i = 0; i < 4; i++) {
            Check.due("take(" + i + ", 7)", 7, x.take(i, 7));
            Check.due("means of town " + i, means[i], x.town(i, 1));
        }
        Check.due("take(1, 16)", 16, x.take(1, 16));
        Check.due("a quarter of 16", 95, x.town(1, 1));
        x.take(4, 5);
        x.call(4, 1);
        Check.due("a proud one loses all", 5, x.town(4, 1));
        x.spare(4);
        Check.due("means given away", 0, x.town(4, 1));
        TaxFarm y = Check.held("town e proud means 10; company z honest coins 9; harvest h grows 300 odds 1; tithe 0;", 0, 9);
        y.year(0);
        Check.due("take(0, 30)", 30, y.take(0, 30));
        Check.due("0 at least", 0, y.town(0, 1));
    }

    private static void loans() {
        TaxFarm x = Check.farm("town a plain means 10; company c honest coins 90; harvest h grows 10 odds 1;");
        Check.due("lend when nobody holds it", -1, x.lend(0, 1));
        Check.due("call when nobody holds it", -1, x.call(0, 1));
        x.bid(0, 30);
        x.award();
        for (int i : WRONG) {
            Check.due("lend(" + i + ", 1)", -1, x.lend(i, 1));
            Check.due("call(" + i + ", 1)", -1, x.call(i, 1));
        }
        Check.due("lend of 0", -1, x.lend(0, 0));
        Check.due("lend of more than he has", -1, x.lend(0, 61));
        Check.due("lend of all", 60, x.lend(0, 60));
        Check.due("coins", 0, x.company(0, 1));
        Check.due("means", 70, x.town(0, 1));
        Check.due("debt", 60, x.town(0, 3));
        Check.due("call of 0", -1, x.call(0, 0));
        Check.due("call of -5", -1, x.call(0, -5));
        Check.due("call of more than the debt", -1, x.call(0, 61));
        Check.due("call of all", 0, x.call(0, 60));
        x.undo();
        Check.due("call of 1", 59, x.call(0, 1));
        x.undo();
        Check.due("call of a part", 40, x.call(0, 20));
        Check.due("means", 50, x.town(0, 1));
        Check.due("coins", 20, x.company(0, 1));
        x.spare(0);
        Check.due("means behind sparing", 30, x.town(0, 1));
        Check.due("call of more than the means", -1, x.call(0, 31));
        Check.due("call of all means", 10, x.call(0, 30));
        Check.due("means", 0, x.town(0, 1));
        Check.due("a spared one can be lent to", 11, x.lend(0, 1));
    }

    private static void sparing() {
        TaxFarm x = Check.farm("town a plain means 100; town b rich means 100; town c rich means 30; town d proud means 9;"
                + "company z honest coins 9;");
        Check.due("spare when nobody holds it", -1, x.spare(0));
        x.bid(0, 9);
        x.award();
        for (int i : WRONG) {
            Check.due("spare(" + i + ")", -1, x.spare(i));
        }
        Check.due("without a law", 20, x.spare(0));
        Check.due("means", 80, x.town(0, 1));
        Check.due("a rich one gives twice", 40, x.spare(1));
        Check.due("means at most, twice", 30, x.spare(2));
        Check.due("means at most", 9, x.spare(3));
        Check.due("to the holder", 99, x.company(0, 1));
        Check.due("spared already", -1, x.spare(0));
        TaxFarm y = Check.held("town a plain means 100; town b rich means 100; company z honest coins 9;"
                + "alone 10 - wealth;", 0, 9);
        Check.due("0 at least", 0, y.spare(0));
        Check.due("spared all the same", 1, y.town(0, 5));
        Check.due("0 at least, twice", 0, y.spare(1));
        TaxFarm w = Check.held("town a plain means 7; town b rich means 8; company z honest coins 9;"
                + "alone 9999 * 9999 * 20;", 0, 9);
        Check.due("means at most of very much", 7, w.spare(0));
        Check.due("means at most of twice very much", 8, w.spare(1));
        TaxFarm v = Check.held("town a plain means 7; company z honest coins 9; alone 9999 * 9999 * 22;", 0, 9);
        Check.due("ints wrap", 0, v.spare(0));
    }

    private static void bribes() {
        TaxFarm x = Check.farm("company a honest coins 30; company b honest coins 30;"
                + "juror j holds b price 12; juror k holds a price 9; juror l holds b price 0;");
        Check.due("bribe when nobody holds it", false, x.bribe(0));
        x.bid(0, 10);
        x.award();
        for (int i : WRONG) {
            Check.due("bribe(" + i + ")", false, x.bribe(i));
        }
        Check.due("bribe(0)", true, x.bribe(0));
        Check.due("coins", 8, x.company(0, 1));
        Check.due("not to the state", 10, x.count(7));
        Check.due("bribed", 1, x.juror(0, 2));
        Check.due("bribed already", false, x.bribe(0));
        Check.due("too dear", false, x.bribe(1));
        Check.due("not bribed", 0, x.juror(1, 2));
        Check.due("for nothing", true, x.bribe(2));
        x.undo();
        x.undo();
        Check.due("bribed no more", 0, x.juror(0, 2));
        TaxFarm y = Check.held("company a honest coins 30; juror j holds a price 12;", 0, 18);
        Check.due("for all he has", true, y.bribe(0));
        Check.due("coins", 0, y.company(0, 1));
        y.sue();
        Check.due("nobody is bribed", 0, y.juror(0, 2));
    }

    private static final String COURT = "town a plain means 100; company o honest coins 99; company f fair coins 99;"
            + "harvest h grows 100 odds 1; bar 10; juror j holds o price 1; juror k holds o price 1; juror l holds f price 1;";

    private static void suits() {
        Check.due("sue when nobody holds it", -1, Check.farm(COURT).sue());
        TaxFarm x = Check.held(COURT, 1, 9);
        x.year(0);
        x.take(0, 30);
        Check.due("greed of twice the bar", 20, x.count(6));
        Check.due("a fair one is let go by all", 1, x.juror(0, 3));
        x.take(0, 1);
        Check.due("one more", 0, x.juror(0, 3));
        Check.due("who hold his shares let him go", 1, x.juror(2, 3));
        x.bribe(0);
        Check.due("who are bribed let him go", 1, x.juror(0, 3));
        x.undo();
        Check.due("coins", 121, x.company(1, 1));
        Check.due("sue()", 0, x.sue());
        Check.due("pays twice the greed", 79, x.company(1, 1));
        Check.due("to the state", 9 + 42, x.count(7));
        Check.due("nobody holds it", -1, x.holder());
        Check.due("no greed", 0, x.count(6));
        Check.due("nobody to let go", -1, x.juror(0, 3));
        TaxFarm y = Check.held(COURT, 0, 99);
        y.year(0);
        y.take(0, 20);
        y.take(0, 1);
        Check.due("greed beyond the bar", 11, y.count(6));
        Check.due("a stranger", 0, y.juror(2, 3));
        y.bribe(2);
        Check.due("let go by his own", 1, y.sue());
        Check.due("holds it still", 0, y.holder());
        Check.due("no greed", 0, y.count(6));
        Check.due("nobody is bribed", 0, y.juror(2, 2));
        Check.due("pays nothing", 20, y.company(0, 1));
        TaxFarm w = Check.held(COURT, 1, 99);
        w.year(0);
        w.take(0, 80);
        w.lend(0, 75);
        Check.due("sue of a poor one", 0, w.sue());
        Check.due("as far as he has it", 0, w.company(1, 1));
        Check.due("the state", 99 + 5, w.count(7));
    }

    private static void suitsByCount() {
        String base = "town a plain means 100; company o honest coins 99; company p honest coins 99;"
                + "harvest h grows 100 odds 1; tithe 0; juror j holds o price 1; juror k holds p price 1;";
        TaxFarm x = Check.held(base, 0, 9);
        x.year(0);
        x.take(0, 50);
        Check.due("as many let him go as do not", 1, x.sue());
        TaxFarm y = Check.held(base + "juror l holds p price 1;", 0, 9);
        y.year(0);
        y.take(0, 50);
        Check.due("more do not", 0, y.sue());
        TaxFarm w = Check.held("town a plain means 100; company o honest coins 99; harvest h grows 100 odds 1;", 0, 9);
        w.year(0);
        w.take(0, 50);
        Check.due("without jurors", 1, w.sue());
    }

    private static void closing() {
        TaxFarm x = Check.held("town a plain means 100; company o honest coins 99; harvest h grows 100 odds 1;"
                + "juror j holds o price 0;", 0, 9);
        for (int i = 0; i < 5; i++) {
            Check.due("close too early", false, x.close());
            x.year(0);
        }
        x.take(0, 100);
        x.bribe(0);
        int greed = x.count(6);
        Check.due("close", true, x.close());
        Check.due("nobody holds it", -1, x.holder());
        Check.due("greed stays till the award", greed, x.count(6));
        Check.due("close again", false, x.close());
        Check.due("take behind it", -1, x.take(0, 1));
        x.bid(0, 1);
        x.award();
        Check.due("no greed", 0, x.count(6));
        Check.due("nobody is bribed", 0, x.juror(0, 2));
    }

    private static void limits() {
        TaxFarm x = Check.held("town a plain means 999; town p port means 999; company o honest coins 9999;"
                + "harvest h grows 300 odds 1; owes debt * 3 - 1;", 0, 1);
        Check.due("crops", 2997 + 3007, x.year(0));
        Check.due("debt 0 at least", 0, x.town(0, 3));
        x.year(0);
        x.year(0);
        Check.due("crops at most", 9999 * 2, x.year(0));
        x.year(0);
        Check.due("means at most", 9999, x.town(0, 1));
        x.lend(0, 4000);
        Check.due("means at most when lent", 9999, x.town(0, 1));
        Check.due("debt", 4000, x.town(0, 3));
        Check.due("coins", 5998, x.company(0, 1));
        Check.due("take of 9999", 9000, x.take(0, 9999));
        Check.due("coins", 15997, x.company(0, 1));
        Check.due("lend of 10000", -1, x.lend(1, 10000));
        Check.due("lend of 9999", 9999, x.lend(1, 9999));
        x.undo();
        x.lend(1, 3500);
        x.close();
        x.bid(0, 1);
        x.award();
        x.year(0);
        Check.due("debt at most by the law", 9999, x.town(0, 3));
        Check.due("debt at most when lent", 9999, x.lend(1, 1));
    }
}
