/** Promises 25, 26 and 31 at their bounds: FREE, AGREE and RESTS. */
public final class CourtBoundsTest {
    private static final int[] EXTREME = {-1, -2, Integer.MIN_VALUE, Integer.MAX_VALUE};

    public static void main(String[] args) {
        othersOfFree();
        freeOfNobody();
        freeByAllSets();
        freeAtTheBar();
        freeWhetherHeHasThem();
        freeIsAsSued();
        othersOfAgree();
        agreeByOne();
        agreeOfAllPairs();
        agreeOfStraws();
        agreeWhenHeld();
        othersOfRests();
        restsAtTheBounds();
        restsInOrder();
        nothingIsDone();
        Check.end();
    }

    private static String jurors(int[] prices, int friends) {
        StringBuilder text = new StringBuilder("town a plain means 999; company c honest coins 9; company z fair coins 9;"
                + "harvest h grows 100 odds 1; tithe 0; bar 5;");
        for (int i = 0; i < prices.length; i++) {
            text.append("juror j").append((char) ('a' + i)).append((friends >> i & 1) != 0 ? " holds c" : " holds z")
                    .append(" price ").append(prices[i]).append(';');
        }
        return text.toString();
    }

    private static TaxFarm greedy(int[] prices, int friends, int greed) {
        TaxFarm x = Check.held(jurors(prices, friends), 0, 1);
        x.year(0);
        x.take(0, greed);
        return x;
    }

    /** 'what 0: coins, 1: JURORS as bits; NONE: others'. */
    private static void othersOfFree() {
        TaxFarm x = greedy(new int[] {7}, 0, 6);
        Check.due("free(0)", 7, x.free(0));
        Check.due("free(1)", 1, x.free(1));
        Check.due("free(2)", -1, x.free(2));
        for (int what : EXTREME) {
            Check.due("free(" + what + ")", -1, x.free(what));
        }
        TaxFarm y = greedy(new int[] {}, 0, 6);
        Check.due("without JURORS", 0, y.free(0));
        Check.due("without JURORS", 0, y.free(1));
    }

    private static void freeOfNobody() {
        TaxFarm x = Check.farm(jurors(new int[] {7, 8}, 0));
        for (int what = -1; what <= 2; what++) {
            Check.due("nobody holds it", -1, x.free(what));
            Check.due("of nothing", -1, new TaxFarm().free(what));
        }
        x.bid(0, 5);
        Check.due("a bid", -1, x.free(0));
        x.award();
        Check.due("held", 0, x.free(0));
        x.year(0);
        x.take(0, 100);
        Check.due("held", 7, x.free(0));
        x.sue();
        Check.due("lost", -1, x.free(0));
        Check.due("lost", -1, x.free(1));
    }

    /** 'the fewest coins; of equal ones the least set (bits)', for 0 to 5 JURORS. */
    private static void freeByAllSets() {
        int[][] rows = {{}, {0}, {9}, {3, 3}, {4, 3}, {3, 4}, {5, 5, 5}, {9, 5, 0}, {0, 5, 9}, {1, 2, 3}, {7, 7, 7, 7}, {0, 0, 0, 0},
            {9, 1, 1, 9}, {5, 5, 5, 5, 5}, {999, 999, 999, 999, 999}, {0, 0, 0, 0, 0}, {1, 2, 3, 4, 5}, {5, 4, 3, 2, 1}, {6, 3, 3, 0, 6},
            {2, 4, 6, 2, 4}};
        for (int[] prices : rows) {
            for (int friends = 0; friends < 1 << prices.length; friends++) {
                int fewest = Integer.MAX_VALUE;
                int least = -1;
                for (int set = 0; set < 1 << prices.length; set++) {
                    int coins = 0;
                    for (int i = 0; i < prices.length; i++) {
                        coins += (set >> i & 1) * prices[i];
                    }
                    boolean free = 2 * Integer.bitCount(set | friends) >= prices.length;
                    if ((set & friends) == 0 && free && coins < fewest) {
                        fewest = coins;
                        least = set;
                    }
                }
                TaxFarm x = greedy(prices, friends, 6);
                Check.due("coins of " + jurors(prices, friends), fewest, x.free(0));
                Check.due("set of " + jurors(prices, friends), least, x.free(1));
            }
        }
    }

    private static void freeAtTheBar() {
        for (int greed = 4; greed <= 7; greed++) {
            TaxFarm x = greedy(new int[] {3, 2}, 0, greed);
            Check.due("by " + greed + " at 5", greed <= 5 ? 0 : 2, x.free(0));
            Check.due("by " + greed + " at 5", greed <= 5 ? 0 : 2, x.free(1));
        }
        for (int greed = 9; greed <= 12; greed++) {
            TaxFarm y = Check.held(jurors(new int[] {3, 2}, 3), 1, 1);
            y.year(0);
            y.take(0, greed);
            Check.due("a fair one by " + greed, greed <= 10 ? 0 : 2, y.free(0));
        }
    }

    private static void freeWhetherHeHasThem() {
        TaxFarm x = greedy(new int[] {999, 999, 999, 999, 999}, 0, 6);
        Check.due("he has 14", 14, x.company(0, 1));
        Check.due("three of them", 3 * 999, x.free(0));
        Check.due("the least set", 7, x.free(1));
        Check.due("he can't", false, x.bribe(0));
    }

    private static void freeIsAsSued() {
        int[] prices = {4, 1, 3, 1, 2};
        for (int friends = 0; friends < 32; friends++) {
            TaxFarm x = greedy(prices, friends, 60);
            int set = x.free(1);
            int coins = x.free(0);
            int before = x.company(0, 1);
            for (int i = 0; i < 5; i++) {
                if ((set >> i & 1) != 0) {
                    Check.due("bribe", true, x.bribe(i));
                }
            }
            Check.due("what was paid", coins, before - x.company(0, 1));
            Check.due("enough now", 0, x.free(1));
            Check.due("sued", 1, x.sue());
        }
    }

    /** 'NONE: others, the same'. */
    private static void othersOfAgree() {
        TaxFarm x = Check.farm("company a honest coins 9; company b honest coins 9; company c honest coins 9;");
        x.bid(0, 5);
        for (int one = -1; one <= 5; one++) {
            for (int other = -1; other <= 5; other++) {
                boolean good = one >= 0 && one < 3 && other >= 0 && other < 3 && one != other;
                int want = !good ? -1 : one == 0 || other == 0 ? 4 : 0;
                Check.due("agree(" + one + ", " + other + ")", want, x.agree(one, other));
            }
        }
        for (int wrong : EXTREME) {
            Check.due("agree(" + wrong + ", 0)", -1, x.agree(wrong, 0));
            Check.due("agree(0, " + wrong + ")", -1, x.agree(0, wrong));
            Check.due("agree(" + wrong + ", " + wrong + ")", -1, x.agree(wrong, wrong));
        }
        Check.due("of nothing", -1, new TaxFarm().agree(0, 1));
        TaxFarm y = Check.farm("company a honest coins 9;");
        Check.due("of one alone", -1, y.agree(0, 1));
        Check.due("the same", -1, y.agree(0, 0));
    }

    /** 'by how much it is more than one more than the highest bid of all others (0 at least)'. */
    private static void agreeByOne() {
        for (int third = 0; third <= 9; third++) {
            for (int top = 0; top <= 9; top++) {
                TaxFarm x = Check.farm("company a honest coins 9; company b honest coins 9; company c honest coins 9;");
                x.bid(0, top);
                x.bid(1, Math.min(top, 1));
                x.bid(2, third);
                Check.due(top + " against " + third, Math.max(0, top - third - 1), x.agree(0, 1));
                Check.due(top + " against " + third, Math.max(0, top - third - 1), x.agree(1, 0));
            }
        }
        TaxFarm y = Check.farm("company a honest coins 9999; company b honest coins 9999;");
        Check.due("no bid", 0, y.agree(0, 1));
        y.bid(0, 9999);
        Check.due("the highest bid", 9998, y.agree(0, 1));
        y.bid(1, 9999);
        Check.due("both", 9998, y.agree(0, 1));
        Check.due("both", 9998, y.agree(1, 0));
    }

    private static void agreeOfAllPairs() {
        int[] bids = {5, 9, 0, 9, 7};
        TaxFarm x = Check.farm("company a honest coins 9; company b noble coins 9; company c fair coins 9; company d fair coins 9;"
                + "company e honest coins 9;");
        for (int i = 0; i < 5; i++) {
            x.bid(i, bids[i]);
        }
        for (int one = 0; one < 5; one++) {
            for (int other = 0; other < 5; other++) {
                if (one != other) {
                    // The second company's 9 would be awarded, and the fourth one's 9 is the highest of others.
                    boolean both = Math.min(one, other) == 1 && Math.max(one, other) == 3;
                    Check.due("agree(" + one + ", " + other + ")", both ? 1 : 0, x.agree(one, other));
                }
            }
        }
    }

    /** 'and is not a straw's': neither if it would be AWARDED, but the lower one's may be. */
    private static void agreeOfStraws() {
        for (int bid = 0; bid <= 9; bid++) {
            for (int straw = 0; straw <= 9; straw++) {
                TaxFarm x = Check.farm("company s straw coins 9; company a honest coins 9; company t straw coins 9;");
                x.bid(1, bid);
                x.bid(0, straw);
                int want = bid > straw ? bid - 1 : 0;
                Check.due("a straw ahead of it: " + bid + ", " + straw, want, x.agree(0, 1));
                Check.due("a third straw: " + bid + ", " + straw, bid > straw ? bid - straw - 1 : 0, x.agree(1, 2));
                x.bid(0, 0);
                x.bid(2, straw);
                int equal = bid >= straw && bid > 0 ? bid - 1 : 0;
                Check.due("a straw behind it: " + bid + ", " + straw, equal, x.agree(1, 2));
                Check.due("two straws", 0, x.agree(0, 2));
            }
        }
    }

    /** 'somebody holds it'. */
    private static void agreeWhenHeld() {
        TaxFarm x = Check.held("company a honest coins 9; company b honest coins 9; juror j holds b price 1;", 0, 5);
        Check.due("held", -1, x.agree(0, 1));
        x.undo();
        Check.due("not held", 4, x.agree(0, 1));
        x.undo();
        Check.due("no bids", 0, x.agree(0, 1));
    }

    /** 'NoSuchElementException: others, none such'. */
    private static void othersOfRests() {
        TaxFarm x = new TaxFarm();
        for (int one = -1; one <= 10; one++) {
            for (int other = -1; other <= 10; other++) {
                boolean good = one >= 0 && one <= 9 && other >= 0 && other <= 9;
                Check.due("rests(" + one + ", " + other + ", -1)", !good, Check.rests(x, one, other, -1) == Check.THROWS);
                if (!good) {
                    Check.due("rests(" + one + ", " + other + ", 0)", Check.THROWS, Check.rests(x, one, other, 0));
                }
            }
        }
        for (int wrong : new int[] {Integer.MIN_VALUE, Integer.MAX_VALUE, -2, 100, 101, 1000}) {
            Check.due("rests(" + wrong + ", 1, -1)", Check.THROWS, Check.rests(x, wrong, 1, -1));
            Check.due("rests(1, " + wrong + ", -1)", Check.THROWS, Check.rests(x, 1, wrong, -1));
            Check.due("rests(1, 1, " + wrong + ")", Check.THROWS, Check.rests(x, 1, 1, wrong));
        }
    }

    private static void restsAtTheBounds() {
        TaxFarm x = Check.farm("company a honest coins 9;");
        for (int one = 0; one <= 9; one++) {
            int count = (int) Check.rests(x, one, 9 - one, -1);
            Check.due("some are at rest", true, count > 0);
            Check.due("the last", true, Check.rests(x, one, 9 - one, count - 1) >= 0);
            Check.due("one beyond", Check.THROWS, Check.rests(x, one, 9 - one, count));
            Check.due("one below none", Check.THROWS, Check.rests(x, one, 9 - one, -2));
        }
        // Of no worth to either: both bid 0, or both 1, as half of -1 is cut to 0.
        Check.due("of no worth", 2, Check.rests(x, 0, 0, -1));
        Check.due("of no worth", 0, Check.rests(x, 0, 0, 0));
        Check.due("of no worth", 11, Check.rests(x, 0, 0, 1));
        Check.due("of no worth", Check.THROWS, Check.rests(x, 0, 0, 2));
    }

    /** '(the least first)', and the same whatever was told. */
    private static void restsInOrder() {
        for (int one = 0; one <= 9; one++) {
            for (int other = 0; other <= 9; other += 3) {
                TaxFarm x = new TaxFarm();
                int count = (int) Check.rests(x, one, other, -1);
                long before = -1;
                for (int i = 0; i < count; i++) {
                    long bids = Check.rests(x, one, other, i);
                    Check.due("in order", true, bids > before && bids <= 99);
                    before = bids;
                }
                int mirrored = (int) Check.rests(x, other, one, -1);
                Check.due("as many the other way", count, mirrored);
            }
        }
    }

    private static void nothingIsDone() {
        TaxFarm x = greedy(new int[] {3, 4, 5}, 0, 50);
        String before = Look.at(x);
        x.free(0);
        x.free(1);
        x.agree(0, 1);
        Check.rests(x, 5, 5, 0);
        Check.rests(x, 5, 5, 99);
        Check.rests(x, 50, 5, 99);
        Check.due("nothing is done", true, before.equals(Look.at(x)));
    }
}
