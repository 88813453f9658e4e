/** Promises 25 (free), 26 (agree) and 31 (rests). */
public final class AuctionTest {
    public static void main(String[] args) {
        free();
        freeOfFriends();
        freeByHand();
        agree();
        agreeOfEqualOnes();
        rests();
        Check.end();
    }

    private static final String COURT = "town a plain means 100; company o honest coins 99; company p fair coins 99;"
            + "harvest h grows 100 odds 1; tithe 0; bar 10;"
            + "juror j holds p price 7; juror k holds p price 3; juror l holds o price 50; juror m holds p price 4;"
            + "juror n holds p price 3;";

    private static void free() {
        TaxFarm x = Check.farm(COURT);
        Check.due("nobody holds it", -1, x.free(0));
        Check.due("nobody holds it", -1, x.free(1));
        x.bid(0, 99);
        x.award();
        x.year(0);
        x.take(0, 10);
        Check.due("greed no more than the bar", 0, x.free(0));
        Check.due("greed no more than the bar", 0, x.free(1));
        x.take(0, 1);
        Check.due("one lets him go; two more are needed", 6, x.free(0));
        Check.due("k and n", 2 + 16, x.free(1));
        Check.due("free(2)", -1, x.free(2));
        Check.due("free(-1)", -1, x.free(-1));
        x.bribe(4);
        Check.due("who is bribed lets him go", 3, x.free(0));
        Check.due("k", 2, x.free(1));
        x.bribe(1);
        Check.due("enough", 0, x.free(0));
        Check.due("enough", 0, x.free(1));
        x.undo();
        x.undo();
        x.lend(0, 11);
        Check.due("whether he has them or not", 6, x.free(0));
        TaxFarm y = Check.farm("town a plain means 100; company o honest coins 99; company p fair coins 99;"
                + "harvest h grows 100 odds 1; juror j holds p price 5; juror k holds p price 5; juror l holds p price 0;"
                + "juror m holds p price 0;");
        y.bid(0, 9);
        y.award();
        y.year(0);
        y.take(0, 100);
        Check.due("for nothing", 0, y.free(0));
        Check.due("the least set", 4 + 8, y.free(1));
        TaxFarm w = Check.farm("town a plain means 100; company o honest coins 99; company p fair coins 99;"
                + "harvest h grows 100 odds 1; juror l holds p price 0; juror j holds p price 5; juror k holds p price 5;");
        w.bid(0, 9);
        w.award();
        w.year(0);
        w.take(0, 100);
        Check.due("of equal ones", 5, w.free(0));
        Check.due("the least set", 1 + 2, w.free(1));
    }

    /** Who lets him go already is never among those to be bribed, however cheap. */
    private static void freeOfFriends() {
        TaxFarm x = Check.farm("town a plain means 100; company o honest coins 99; company p fair coins 99;"
                + "harvest h grows 100 odds 1; juror j holds o price 0; juror k holds p price 0; juror l holds p price 8;"
                + "juror m holds p price 7; juror n holds p price 9;");
        x.bid(0, 9);
        x.award();
        x.year(0);
        x.take(0, 100);
        Check.due("k and m", 7, x.free(0));
        Check.due("k and m", 2 + 8, x.free(1));
    }

    private static void freeByHand() {
        TaxFarm x = Check.farm(COURT);
        x.bid(0, 9);
        x.award();
        x.year(0);
        x.take(0, 90);
        x.mark(0, false);
        int fewest = Integer.MAX_VALUE;
        int least = -1;
        for (int set = 0; set < 32; set++) {
            int coins = x.company(0, 1);
            boolean needless = false;
            for (int i = 0; i < 5; i++) {
                if ((set >> i & 1) != 0) {
                    needless |= x.juror(i, 3) == 1;
                    x.bribe(i);
                }
            }
            coins -= x.company(0, 1);
            if (!needless && coins < fewest && x.sue() == 1) {
                fewest = coins;
                least = set;
            }
            x.mark(0, true);
        }
        Check.due("free(0)", fewest, x.free(0));
        Check.due("free(1)", least, x.free(1));
    }

    private static void agree() {
        TaxFarm x = Check.farm("company a honest coins 99; company b noble coins 99; company c straw coins 99;"
                + "company d fair coins 99;");
        Check.due("no bids", 0, x.agree(0, 1));
        Check.due("the same", -1, x.agree(1, 1));
        int[] wrong = {-1, 4, Integer.MIN_VALUE, Integer.MAX_VALUE};
        for (int i : wrong) {
            Check.due("agree(" + i + ", 0)", -1, x.agree(i, 0));
            Check.due("agree(0, " + i + ")", -1, x.agree(0, i));
        }
        x.bid(0, 1);
        Check.due("one more than nothing", 0, x.agree(0, 1));
        x.bid(0, 2);
        Check.due("by one", 1, x.agree(0, 1));
        x.bid(1, 50);
        x.bid(3, 20);
        Check.due("agree(0, 1)", 29, x.agree(0, 1));
        Check.due("agree(1, 0)", 29, x.agree(1, 0));
        Check.due("agree(1, 3)", 47, x.agree(1, 3));
        Check.due("not awarded", 0, x.agree(0, 3));
        x.bid(3, 49);
        Check.due("0 at least", 0, x.agree(0, 1));
        x.bid(2, 60);
        Check.due("a straw's is awarded", 0, x.agree(1, 3));
        Check.due("is a straw's", 0, x.agree(1, 2));
        x.bid(2, 10);
        Check.due("a straw's may be the lower one", 0, x.agree(1, 2));
        x.bid(3, 5);
        Check.due("a straw's may be the lower one", 44, x.agree(1, 2));
        x.award();
        Check.due("somebody holds it", -1, x.agree(0, 1));
    }

    private static void agreeOfEqualOnes() {
        TaxFarm x = Check.farm("company a honest coins 99; company b straw coins 99; company c fair coins 99;");
        x.bid(0, 30);
        x.bid(1, 30);
        Check.due("the first one's is no straw's", 29, x.agree(0, 1));
        x.bid(0, 0);
        x.bid(2, 30);
        Check.due("the first one's is a straw's", 0, x.agree(1, 2));
        x.bid(0, 30);
        Check.due("another one's is ahead", 0, x.agree(1, 2));
        Check.due("another one's is as high", 0, x.agree(0, 1));
        x.bid(1, 0);
        Check.due("the same whoever is named first", 29, x.agree(2, 0));
    }

    private static int gain(int worth, int bid, int other) {
        return bid > other ? worth - bid : bid < other ? 0 : (worth - bid) / 2;
    }

    private static void rests() {
        for (int one = 0; one <= 9; one++) {
            for (int other = 0; other <= 9; other++) {
                TaxFarm x = new TaxFarm();
                int found = 0;
                for (int bids = 0; bids < 100; bids++) {
                    int a = bids / 10;
                    int b = bids % 10;
                    boolean rest = true;
                    for (int c = 0; c <= 9; c++) {
                        rest &= gain(one, c, b) <= gain(one, a, b) && gain(other, c, a) <= gain(other, b, a);
                    }
                    if (rest) {
                        Check.due("rests(" + one + ", " + other + ", " + found + ")", bids,
                                Check.rests(x, one, other, found));
                        found++;
                    }
                }
                Check.due("rests(" + one + ", " + other + ", NONE)", found, Check.rests(x, one, other, -1));
                Check.due("none such", Check.THROWS, Check.rests(x, one, other, found));
            }
        }
        TaxFarm x = new TaxFarm();
        Check.due("rests(3, 2, -1)", 7, Check.rests(x, 3, 2, -1));
        Check.due("rests(3, 2, 0)", 10, Check.rests(x, 3, 2, 0));
        Check.due("rests(3, 2, 6)", 33, Check.rests(x, 3, 2, 6));
        int[] wrong = {-1, 10, Integer.MIN_VALUE, Integer.MAX_VALUE};
        for (int i : wrong) {
            Check.due("rests(" + i + ", 0, -1)", Check.THROWS, Check.rests(x, i, 0, -1));
            Check.due("rests(0, " + i + ", -1)", Check.THROWS, Check.rests(x, 0, i, -1));
        }
        Check.due("rests(0, 0, -2)", Check.THROWS, Check.rests(x, 0, 0, -2));
        Check.due("rests(0, 0, least)", Check.THROWS, Check.rests(x, 0, 0, Integer.MIN_VALUE));
        Check.due("rests(0, 0, greatest)", Check.THROWS, Check.rests(x, 0, 0, Integer.MAX_VALUE));
    }
}
