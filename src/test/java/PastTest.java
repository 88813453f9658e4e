/** Promises 4 (past) and 20 (judged). */
public final class PastTest {
    private static final String TEXT = "town a plain means 100; town b proud means 50; company o honest coins 99;"
            + "company p noble coins 99; harvest h grows 100 odds 1; juror j holds p price 5; juror k holds p price 5;";

    public static void main(String[] args) {
        faults();
        names();
        judged();
        fromTheBegin();
        asByHand();
        Check.end();
    }

    private static void fault(String text, int kind, int place) {
        TaxFarm x = Check.farm(TEXT);
        Check.due("past: sue;", 0, Check.past(x, "sue;"));
        Check.due("past: " + text, kind == 0 ? 0 : kind + 16 * place, Check.past(x, text));
        if (kind != 0) {
            Check.due("the past stays", 1, x.count(9));
        }
    }

    private static void faults() {
        fault("", 0, 0);
        fault("bid o 0; bid p 9999; award; year h; take a 1; lend b 9999; call a 5; spare b; bribe j; sue; close;", 0, 0);
        fault("judge;", 1, 0);
        fault("bid", 1, 3);
        fault("bid o", 1, 5);
        fault("bid o 1", 1, 7);
        fault("bid o 10000;", 1, 6);
        fault("bid o o;", 1, 6);
        fault("award 1;", 1, 6);
        fault("award", 1, 5);
        fault("year;", 1, 4);
        fault("year h 1;", 1, 7);
        fault("take a 0;", 4, 7);
        fault("lend a 0;", 4, 7);
        fault("call a 0;", 4, 7);
        fault("take a;", 1, 6);
        fault("spare 1;", 1, 6);
        fault("bribe;", 1, 5);
        fault("sue close;", 1, 4);
        fault("close; town", 1, 7);
        fault("tithe 1;", 1, 0);
        String forty = "sue;".repeat(40);
        fault(forty, 0, 0);
        fault(forty + " bid", 5, 161);
        fault(forty + " bogus", 1, 161);
        fault(forty + ";", 1, 160);
    }

    private static void names() {
        fault("bid a 1;", 2, 4);
        fault("bid x 1;", 2, 4);
        fault("bid town 1;", 1, 4);
        fault("bid and 1;", 1, 4);
        fault("year o;", 2, 5);
        fault("take h 1;", 2, 5);
        fault("lend j 1;", 2, 5);
        fault("call o 1;", 2, 5);
        fault("spare o;", 2, 6);
        fault("bribe o;", 2, 6);
        fault("take x 0;", 2, 5);
        fault("bid wealth 1;", 2, 4);
        TaxFarm x = new TaxFarm();
        Check.due("of nothing told", 2 + 16 * 4, Check.past(x, "bid o 1;"));
        Check.due("of nothing told", 0, Check.past(x, "award;"));
        Check.due("lines", 1, x.count(9));
        Check.due("can't be", 0, x.judged(0));
    }

    private static void judged() {
        TaxFarm x = Check.farm(TEXT);
        Check.due("without a past", -1, x.judged(0));
        Check.due("without a past", 0, x.judged(1));
        Check.due("without a past", 150, x.judged(2));
        Check.due("judged(-1)", -2, x.judged(-1));
        Check.due("judged(3)", -2, x.judged(3));
        Check.due("past", 0, Check.past(x, "bid o 40; award; year h; take a 50; sue;"));
        Check.due("all can be", -1, x.judged(0));
        Check.due("a bid and twice the greed", 40 + 80, x.judged(1));
        Check.due("means", 150 - 20, x.judged(2));
        Check.due("nothing is done", 0, x.count(7));
        Check.due("nothing can be undone", 0, x.count(11));
        Check.due("lines", 5, x.count(9));
        Check.due("past", 0, Check.past(x, "bid o 40; year h; award; sue; take a 1; year h; take b 15; close;"));
        Check.due("the first that can't be", 1, x.judged(0));
        Check.due("it is left out", 40, x.judged(1));
        Check.due("means", 140, x.judged(2));
        Check.due("nothing", 0, x.past());
        Check.due("no lines", 0, x.count(9));
        String[] refused = {"bid o 100;", "award;", "year h;", "take a 1;", "lend a 1;", "call a 1;", "spare a;",
            "bribe j;", "sue;", "close;"};
        for (String line : refused) {
            Check.due("past", 0, Check.past(x, "bid o 1; " + line + " bid o 2; " + (line.equals("award;") ? "award; award;" : "")));
            Check.due("can't be: " + line, line.equals("award;") ? 2 : 1, x.judged(0));
        }
    }

    private static void fromTheBegin() {
        TaxFarm x = Check.farm(TEXT);
        x.bid(1, 20);
        x.award();
        x.year(0);
        x.take(0, 100);
        Check.due("past", 0, Check.past(x, "bid o 9; award;"));
        Check.due("from the begin", -1, x.judged(0));
        Check.due("from the begin", 9, x.judged(1));
        Check.due("from the begin", 150, x.judged(2));
        Check.due("now stays", 15, x.count(7));
    }

    private static void asByHand() {
        TaxFarm x = Check.farm(TEXT);
        Check.due("past", 0, Check.past(x, "bid p 50; award; lend a 20; year h; call a 5; spare b; bribe j; take a 90;"
                + "sue; year h; year h; year h; year h; close; bid o 3; award; spare a;"));
        Check.due("all can be", -1, x.judged(0));
        x.bid(1, 50);
        x.award();
        x.lend(0, 20);
        x.year(0);
        x.call(0, 5);
        x.spare(1);
        x.bribe(0);
        x.take(0, 90);
        x.sue();
        for (int i = 0; i < 4; i++) {
            x.year(0);
        }
        x.close();
        x.bid(0, 3);
        x.award();
        x.spare(0);
        Check.due("the state", x.count(7), x.judged(1));
        Check.due("means", x.count(8), x.judged(2));
        Check.due("the state by hand", 37 + 3, x.count(7));
    }
}
