/** Promise 2 (feed), and what is a token. */
public final class TapeTest {
    public static void main(String[] args) {
        signs();
        limit();
        taken();
        tokens();
        Check.end();
    }

    private static void signs() {
        TaxFarm x = new TaxFarm();
        Check.due("feed of nothing", 0, x.feed(0, 0, 0));
        Check.due("feed of 10, 32, 126", 3, x.feed(0x0a207eL, 0, 0));
        Check.due("feed of 9, 11, 31, 127, 128, 255", 3, x.feed(0x090b1f7f80ffL, -1L, Long.MIN_VALUE));
        // 't' is the highest byte of a; ' ' the lowest of b; ';' the lowest of c.
        TaxFarm y = new TaxFarm();
        Check.due("feed of tithe 5;", 8, y.feed(0x7469746865000000L, 0x20L, 0x353bL));
        Check.due("province of it", 0, y.province());
    }

    private static void limit() {
        TaxFarm x = new TaxFarm();
        String blanks = " ".repeat(24);
        for (int i = 1; i <= 41; i++) {
            Check.due("feed " + i, 24 * i, Check.feed(x, blanks));
        }
        Check.due("feed 42", 1000, Check.feed(x, blanks));
        Check.due("feed beyond the limit", 1000, Check.feed(x, "town"));
        Check.due("count(12)", 1000, x.count(12));
        Check.due("province of 1000 blanks", 0, x.province());
        for (int i = 0; i < 41; i++) {
            Check.feed(x, blanks);
        }
        Check.feed(x, " ".repeat(11) + "tithe");
        Check.due("the end lies at the text's length", 1 + 16 * 1000, x.province());
    }

    private static void taken() {
        TaxFarm x = new TaxFarm();
        Check.due("province with a fault", 1, Check.province(x, "x"));
        Check.due("tape is empty then", 0, x.count(12));
        Check.due("past with a fault", 1, Check.past(x, "x"));
        Check.due("tape is empty then", 0, x.count(12));
        Check.due("tape is fed anew", 1, Check.feed(x, ";"));
        Check.due("a fault", 1, Check.province(x, ";"));
        Check.due("a fault", 1, Check.province(x, "9".repeat(40)));
        Check.due("no digits of an elder text", 1 + 16 * 7, Check.province(x, "tithe 5"));
        Check.due("a fault", 1, Check.province(x, "a".repeat(40)));
        Check.due("no letters of an elder text", 1 + 16 * 6, Check.province(x, "town a"));
    }

    private static void tokens() {
        TaxFarm x = new TaxFarm();
        Check.due("no blanks", 0, Check.province(x, "tithe10;town abcdefgh port means9;alone 1+2*(3-wealth)<4;"));
        Check.due("a letter right behind a number", 0, Check.province(x, "harvest h grows 100odds 9;"));
        Check.due("line ends", 0, Check.province(x, "\n\ntithe\n7\n;\n"));
        Check.due("a word of 9", 1 + 16 * 5, Check.province(x, "town abcdefghi plain means 1;"));
        Check.due("a number of 5", 1 + 16 * 6, Check.province(x, "tithe 00001;"));
        Check.due("a number of 4", 0, Check.province(x, "tithe 0001;"));
        Check.due("capitals", 1 + 16 * 5, Check.province(x, "town Arx plain means 1;"));
        Check.due("another sign", 1 + 16 * 8, Check.province(x, "tithe 1 , "));
        Check.due("the end behind blanks", 1 + 16 * 10, Check.province(x, "tithe 1   "));
        Check.due("digits part a word", 1 + 16 * 6, Check.province(x, "town a1 plain means 1;"));
    }
}
