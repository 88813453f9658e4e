/** Promises 8 (holder) and 34 (count) through some years. */
public final class CountTest {
    private static void counts(TaxFarm x, String when, int... want) {
        for (int what = 0; what < want.length; what++) {
            Check.due(when + ": count(" + what + ")", want[what], x.count(what));
        }
    }

    public static void main(String[] args) {
        TaxFarm x = Check.farm("town a plain means 100; town b proud means 50; company o honest coins 90;"
                + "company p noble coins 80; company q fair coins 70; harvest h grows 100 odds 1; juror j holds p price 1;"
                + "juror k holds p price 1; juror l holds q price 1; juror m holds q price 2;");
        counts(x, "told", 2, 3, 1, 4, 0, 0, 0, 0, 150, 0, 0, 0, 0);
        x.bid(0, 30);
        Check.due("holder", -1, x.holder());
        x.award();
        Check.due("holder", 0, x.holder());
        counts(x, "awarded", 2, 3, 1, 4, 0, 0, 0, 30, 150, 0, 0, 2, 0);
        x.year(0);
        x.take(0, 20);
        counts(x, "taken", 2, 3, 1, 4, 1, 1, 10, 30, 145, 0, 0, 4, 0);
        x.tale(2, 7);
        Check.due("past", 0, Check.past(x, "award; sue;"));
        Check.feed(x, "abc");
        counts(x, "told of", 2, 3, 1, 4, 1, 1, 10, 30, 145, 2, 1, 4, 3);
        x.sue();
        Check.due("holder", -1, x.holder());
        counts(x, "sued", 2, 3, 1, 4, 1, 1, 0, 50, 145, 2, 1, 5, 3);
        x.bid(1, 40);
        x.award();
        Check.due("holder", 1, x.holder());
        counts(x, "awarded again", 2, 3, 1, 4, 1, 0, 0, 80, 145, 2, 1, 7, 3);
        int[] wrong = {-1, 13, Integer.MIN_VALUE, Integer.MAX_VALUE};
        for (int i : wrong) {
            Check.due("count(" + i + ")", -1, x.count(i));
        }
        Check.end();
    }
}
