/** No call throws by itself, for any arguments in any state, and each answers within what its promise names. */
public final class NeverThrowsTest {
    private static final int CALLS = 480;
    private static final int[] EDGES = {-1, 0, 1, 2, 3, 4, 5, 6, 7, 9, 10, 15, 16, 20, 21, 31, 32, 50, 51, 99, 100, 999, 1000, 9998, 9999, 10000,
        99999, 100000, -2, Integer.MIN_VALUE, Integer.MAX_VALUE, Integer.MIN_VALUE + 1, 1 << 30};
    private static final String[] TOKENS = ("town company harvest juror tithe bar alone owes means coins grows odds holds price plain rich "
            + "proud port honest straw noble fair not and or bid award year take lend call spare bribe sue close wealth crop debt a b c d e "
            + "0 1 5 10 99 300 999 9999 10000 ( ) < = + - * ; ; ; ; ? abcdefgh abcdefghi").split(" ");
    private static final String FULL = "town a plain means 999;town b rich means 999;town c proud means 999;town d port means 999;"
            + "town e plain means 0;town f port means 0;company g honest coins 9999;company h noble coins 9999;company i fair coins 9999;"
            + "company j straw coins 99;company k fair coins 0;harvest l grows 300 odds 9;harvest m grows 0 odds 1;harvest n grows 100 odds 5;"
            + "harvest o grows 7 odds 3;harvest p grows 299 odds 9;juror q holds g price 0;juror r holds h price 999;juror s holds i price 7;"
            + "juror t holds g price 50;juror u holds k price 1;tithe 13;bar 99;alone wealth*wealth*9999+crop;owes debt*debt+wealth*9999;";
    private static final String[] TEXTS = {"", FULL, "town a rich means 5;company c fair coins 3;harvest h grows 300 odds 1;",
        "company c noble coins 9;juror j holds c price 9;", "town a port means 0;harvest h grows 0 odds 9;tithe 100;", "?"};

    private static long drawn = 1;

    public static void main(String[] args) {
        for (int run = 0; run < 400; run++) {
            TaxFarm x = new TaxFarm();
            Check.province(x, TEXTS[run % TEXTS.length]);
            for (int i = 0; i < CALLS - 60; i++) {
                callAny(x);
            }
        }
        anyTokens();
        Check.end();
    }

    private static int draw(int below) {
        drawn = (drawn * 6364136223846793005L + 1442695040888963407L);
        return (int) ((drawn >>> 33) % below);
    }

    private static int edge() {
        return draw(3) == 0 ? EDGES[draw(EDGES.length)] : draw(6);
    }

    private static void callAny(TaxFarm x) {
        int which = draw(40);
        int a = edge();
        int b = edge();
        int c = edge();
        int d = edge();
        try {
            long answer = which < 20 ? callHand(x, which, a, b) : callOther(x, which, a, b, c, d);
            Check.due("call " + which + "(" + a + ", " + b + ", " + c + ", " + d + ") is -2 or more", true, answer >= -2);
        } catch (RuntimeException e) {
            Check.due("call " + which + "(" + a + ", " + b + ", " + c + ", " + d + ") throws " + e, false, true);
        }
    }

    private static long callHand(TaxFarm x, int which, int a, int b) {
        switch (which) {
            case 0:
            case 1: return Look.bit(x.bid(a, b));
            case 2:
            case 3: return x.award();
            case 4:
            case 5:
            case 6: return x.year(a);
            case 7:
            case 8: return x.take(a, b);
            case 9:
            case 10: return x.lend(a, b);
            case 11: return x.call(a, b);
            case 12: return x.spare(a);
            case 13: return Look.bit(x.bribe(a));
            case 14: return x.sue();
            case 15: return Look.bit(x.close());
            case 16: return Look.bit(x.undo());
            case 17: return Look.bit(x.mark(a, false));
            case 18: return Look.bit(x.mark(a, true));
            default: return Look.bit(x.tale(a, b));
        }
    }

    private static long callOther(TaxFarm x, int which, int a, int b, int c, int d) {
        switch (which) {
            case 20: return x.town(a, b);
            case 21: return x.company(a, b);
            case 22: return x.juror(a, b);
            case 23: return x.holder();
            case 24: return x.judged(a);
            case 25: return x.worth(a);
            case 26: return x.news();
            case 27: return x.gather(a, b, c, d);
            case 28: return x.rate(a, b, c);
            case 29: return x.free(a);
            case 30: return x.agree(a, b);
            case 31: return x.knew(a, b);
            case 32: return x.secret();
            case 33: return x.next();
            case 34: return Math.max(-2, Check.rests(x, a, b, c));
            case 35: return x.lustra(a, b, c);
            case 36: return x.count(a);
            case 37: return x.feed((long) a << 32 | b, (long) c << 40, d);
            case 38: return draw(20) == 0 ? x.past() : x.holder();
            default: return draw(40) == 0 ? x.province() : x.holder();
        }
    }

    /** Any tokens are a PROVINCE or a PAST, or have a FAULT of kind 1 to 5 within the text. */
    private static void anyTokens() {
        for (int run = 0; run < 4000; run++) {
            StringBuilder text = new StringBuilder(draw(2) == 0 ? "" : TEXTS[2]);
            if (draw(3) == 0) {
                text.append("alone ");
            }
            int most = draw(40);
            for (int i = 0; i < most; i++) {
                text.append(TOKENS[draw(TOKENS.length)]).append(draw(4) == 0 ? "" : " ");
            }
            TaxFarm x = new TaxFarm();
            int length = Check.feed(x, text.toString());
            int fault = draw(2) == 0 ? x.province() : x.past();
            boolean good = fault == 0 || (fault % 16 >= 1 && fault % 16 <= 5 && fault / 16 <= length);
            Check.due("a FAULT within " + text + ": " + fault, true, good);
            Check.due("the TAPE is empty then", 0, x.count(12));
        }
    }
}
