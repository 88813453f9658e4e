/** Promise 2 and the terms of the TAPE: its bounds, and which signs and tokens there are. */
public final class TapeBoundsTest {
    private static final String FEW = "town a plain means 7; company c fair coins 9;";

    public static void main(String[] args) {
        everyByte();
        everyByteOfALong();
        orderOfBytes();
        leftOutWithin();
        aroundThousand();
        whatIsBeyond();
        fullTape();
        readersEmptyIt();
        othersLeaveIt();
        blanks();
        signsThatAreNone();
        wordsOfEight();
        numbersOfFour();
        asLongAsCanBe();
        endOfText();
        Check.end();
    }

    /** 'others than 10 and 32 .. 126 are left out'. */
    private static void everyByte() {
        for (int value = 0; value < 256; value++) {
            TaxFarm x = new TaxFarm();
            int want = value == 10 || (value >= 32 && value <= 126) ? 1 : 0;
            Check.due("feed of the byte " + value, want, x.feed(value, 0, 0));
            Check.due("count(12)", want, x.count(12));
        }
        TaxFarm x = new TaxFarm();
        Check.due("feed of 9, 11, 31, 127 alone", 0, x.feed(0x090b1f7f090b1f7fL, 0x7fL, 0x80ffL));
        Check.due("feed of all bits", 0, x.feed(-1L, -1L, -1L));
        Check.due("feed of the least", 0, x.feed(Long.MIN_VALUE, Long.MIN_VALUE, Long.MIN_VALUE));
        Check.due("feed of the greatest", 0, x.feed(Long.MAX_VALUE, Long.MAX_VALUE, Long.MAX_VALUE));
        Check.due("feed of 24 that are known", 24, x.feed(0x7e7e7e7e7e7e7e7eL, 0x2020202020202020L, 0x0a0a0a0a0a0a0a0aL));
    }

    private static void everyByteOfALong() {
        for (int place = 0; place < 24; place++) {
            long sign = ((long) ';') << (56 - 8 * (place % 8));
            TaxFarm x = new TaxFarm();
            Check.due("feed of a sign at " + place, 1,
                    x.feed(place / 8 == 0 ? sign : 0, place / 8 == 1 ? sign : 0, place / 8 == 2 ? sign : 0));
            Check.due("it can't stand there", 1, x.province());
        }
    }

    /** 'the bytes of a, b, c, of each the highest first': bar9;tithe... would be a fault in any other order. */
    private static void orderOfBytes() {
        TaxFarm x = new TaxFarm();
        // "town abc" "defgh po" "rt means", then "123;".
        Check.due("a, b, c", 24, x.feed(0x746f776e20616263L, 0x646566676820706fL, 0x7274206d65616e73L));
        Check.due("behind it", 28, x.feed(0x3132333b00000000L, 0, 0));
        Check.due("province", 0, x.province());
        Check.due("a port", 3, x.town(0, 0));
        Check.due("means", 123, x.town(0, 1));
    }

    private static void leftOutWithin() {
        TaxFarm x = new TaxFarm();
        // t 0 i 127 t 255 h e: what is left out parts nothing.
        Check.due("signs", 5, x.feed(0x7400697f74ff6865L, 0, 0));
        Check.due("signs", 8, x.feed(0, 0x0931003200003b1fL, 0));
        Check.due("tithe12;", 0, x.province());
        Check.due("a blank parts", 1, Check.province(x, "ti the 12;"));
    }

    private static TaxFarm blanksTo(int length) {
        TaxFarm x = new TaxFarm();
        Check.due("feed to " + length, length, Check.feed(x, " ".repeat(length)));
        return x;
    }

    private static void aroundThousand() {
        for (int length = 975; length <= 1000; length++) {
            TaxFarm x = blanksTo(length);
            Check.due("24 behind " + length, Math.min(1000, length + 24), Check.feed(x, "x".repeat(24)));
            Check.due("count(12)", Math.min(1000, length + 24), x.count(12));
            Check.due("one more", Math.min(1000, length + 25), Check.feed(x, "x"));
            Check.due("nothing more", Math.min(1000, length + 25), x.feed(0, 0, 0));
        }
        TaxFarm x = blanksTo(999);
        Check.due("others take no room", 999, x.feed(0x0001027f80ff090bL, -1L, 0));
        Check.due("the thousandth", 1000, x.feed(0, 0, ';'));
        Check.due("its place", 1 + 16 * 999, x.province());
    }

    /** What is beyond 1,000 is left out, and what is within stays. */
    private static void whatIsBeyond() {
        TaxFarm x = blanksTo(992);
        Check.due("tithe 5; and more", 1000, Check.feed(x, "tithe 5;tithe 6;"));
        Check.due("the rest is not there", 0, x.province());
        TaxFarm y = blanksTo(993);
        Check.due("the last sign is beyond", 1000, Check.feed(y, "tithe 5;"));
        Check.due("the end lies at 1000", 1 + 16 * 1000, y.province());
        TaxFarm w = blanksTo(991);
        Check.due("one sign less", 999, Check.feed(w, "tithe 5;"));
        Check.due("without a fault", 0, w.province());
        Check.due("it is not kept for later", 0, w.count(12));
    }

    private static void fullTape() {
        StringBuilder text = new StringBuilder("alone 1");
        while (text.length() < 999) {
            text.append("+1");
        }
        TaxFarm x = new TaxFarm();
        String law = text.append(';').toString();
        Check.due("a text of 1000", 1000, Check.feed(x, law));
        Check.due("a law of 1000 signs", 0, x.province());
        Check.due("the same with a town is too long", 1000,
                Check.feed(x, "town a rich means 999;company c fair coins 1;" + law));
        Check.due("the end lies at 1000", 1 + 16 * 1000, x.province());
        StringBuilder many = new StringBuilder("town a plain means 999;company c fair coins 1;alone 1");
        while (many.length() < 998) {
            many.append("+1");
        }
        many.append(" ".repeat(999 - many.length())).append(';');
        int want = (int) many.chars().filter(sign -> sign == '+').count() + 1;
        TaxFarm y = new TaxFarm();
        Check.due("a text of 1000", 1000, Check.feed(y, many.toString()));
        Check.due("a town and a long law", 0, y.province());
        y.bid(0, 1);
        y.award();
        Check.due("all of it counts", want, y.spare(0));
    }

    /** 'what reads it takes it: it is empty then', with a FAULT or without. */
    private static void readersEmptyIt() {
        String[] texts = {"", FEW, "town", "\"", " "};
        for (String text : texts) {
            TaxFarm x = new TaxFarm();
            Check.province(x, text);
            Check.due("empty behind province: " + text, 0, x.count(12));
            Check.due("a PROVINCE of nothing", 0, x.province());
            Check.past(x, text);
            Check.due("empty behind past: " + text, 0, x.count(12));
            Check.due("a PAST of nothing", 0, x.past());
            Check.due("fed from the begin", 1, Check.feed(x, "x"));
            Check.due("its place is 0", 1, x.past());
        }
        TaxFarm y = blanksTo(1000);
        y.past();
        Check.due("there is room again", 4, Check.feed(y, "sue;"));
        Check.due("a PAST", 0, y.past());
        Check.due("of one line", 1, y.count(9));
    }

    private static void othersLeaveIt() {
        TaxFarm x = Check.farm(FEW + "harvest h grows 1 odds 1; juror j holds c price 0;");
        Check.feed(x, "tithe 1");
        x.mark(0, false);
        x.bid(0, 5);
        x.undo();
        x.bid(0, 4);
        x.award();
        x.year(0);
        x.spare(0);
        x.bribe(0);
        x.sue();
        x.tale(0, 5);
        x.mark(0, true);
        x.judged(0);
        x.lustra(1, 9, 0);
        Check.rests(x, 1, 1, -2);
        Look.at(x);
        Check.due("the TAPE stays", 7, x.count(12));
        Check.due("and goes on", 8, Check.feed(x, ";"));
        Check.due("as it was fed", 0, x.province());
        Check.due("by it there is no town", 0, x.count(0));
    }

    /** 'blanks (10, 32) between where one likes'. */
    private static void blanks() {
        TaxFarm x = new TaxFarm();
        Check.due("only blanks", 0, Check.province(x, " \n \n\n  "));
        Check.due("many blanks", 0, Check.province(x, "\n town \n\n a\nplain  means\n7 \n;\n \n"));
        Check.due("means", 7, x.town(0, 1));
        Check.due("none where none is needed", 0, Check.province(x, "town a plain means7;alone(1)*(2)<3and(wealth)=4or not(5);"));
        Check.due("one is needed between words", 1, Check.province(x, "towna plain means 7;"));
        Check.due("one is needed between words", 1 + 16 * 7, Check.province(x, "town a plainmeans 7;"));
        Check.due("none within a word", 1 + 16 * 7, Check.province(x, "town a pl ain means 7;"));
        Check.due("none within a number", 1 + 16 * 21, Check.province(x, "town a plain means 7 7;"));
        Check.due("none in a PAST", 0, Check.past(x, "sue;award;close;"));
        Check.due("many in a PAST", 0, Check.past(x, "\nsue\n\n;  award ;\nclose\n;\n"));
        Check.due("lines", 3, x.count(9));
    }

    /** All signs but ( ) < = + - * ; and letters and digits are none, and each stands at its own place. */
    private static void signsThatAreNone() {
        for (char sign = 33; sign <= 126; sign++) {
            TaxFarm x = new TaxFarm();
            boolean joins = "<=+-*".indexOf(sign) >= 0;
            if (!Character.isLetterOrDigit(sign)) {
                Check.due("alone 1 " + sign + " 1;", joins ? 0 : sign == ';' ? 1 + 16 * 10 : 1 + 16 * 8,
                        Check.province(x, "alone 1 " + sign + " 1;"));
                Check.due("a statement cannot begin with " + sign, 1, Check.province(x, sign + "town"));
                Check.due("nor a line", 1, Check.past(x, sign + "sue;"));
                Check.due("a word ends by " + sign, 1 + 16 * (sign == ';' ? 4 : 3), Check.past(x, "sue" + sign + sign));
            } else if (sign < 'a' && sign > '9') {
                Check.due("a capital letter " + sign, 1 + 16 * 5, Check.province(x, "town " + sign + " plain means 1;"));
                Check.due("it ends a word", 1 + 16 * 6, Check.province(x, "town a" + sign + " plain means 1;"));
                Check.due("it ends a number", 1 + 16 * 7, Check.province(x, "tithe 1" + sign + ";"));
            } else {
                int at = sign <= '9' ? 1 + 16 * 5 : 0;
                Check.due("a name of " + sign, at, Check.province(x, "town " + sign + " plain means 1;"));
            }
        }
    }

    /** 'WORDS (letters a .. z, 8 at most)'; 'a longer WORD, too, at its first sign, is none'. */
    private static void wordsOfEight() {
        TaxFarm x = new TaxFarm();
        Check.due("7 letters", 0, Check.province(x, "town abcdefg plain means 1;"));
        Check.due("8 letters", 0, Check.province(x, "town abcdefgh plain means 1;"));
        Check.due("9 letters", 1 + 16 * 5, Check.province(x, "town abcdefghi plain means 1;"));
        Check.due("8 times z", 0, Check.province(x, "town zzzzzzzz plain means 1; town zzzzzzzy plain means 1;"));
        Check.due("8 times a", 0, Check.province(x, "town aaaaaaaa plain means 1; town aaaaaaa plain means 1;"));
        for (int length = 9; length <= 80; length++) {
            String word = "town".repeat(20).substring(80 - length);
            Check.due("a word of " + length, 1, Check.province(new TaxFarm(), word + " a plain means 1;"));
        }
        Check.due("a long word at its first sign", 1 + 16 * 8, Check.province(x, "tithe 5;" + "a".repeat(990)));
        Check.due("a known word with one letter more", 1, Check.province(x, "harvests h grows 1 odds 1;"));
        Check.due("a known word with two letters more", 1, Check.province(x, "harvesttt h grows 1 odds 1;"));
        Check.due("a known word with one letter less", 1, Check.province(x, "harves h grows 1 odds 1;"));
        Check.due("a long word behind a number", 1 + 16 * 7, Check.province(x, "tithe 5abcdefghi;"));
        Check.due("a long word in an E", 1 + 16 * 6, Check.province(x, "alone notwealth;"));
    }

    /** 'NUMBERS (1 to 4 digits; a letter may stand right behind)'; a longer one is none, at its first sign. */
    private static void numbersOfFour() {
        TaxFarm x = new TaxFarm();
        String[] good = {"0", "5", "05", "005", "0005", "0000", "0100", "100"};
        for (String number : good) {
            Check.due("tithe " + number, 0, Check.province(x, "tithe " + number + ";"));
        }
        String[] none = {"00000", "00005", "10000", "99999", "000000000000000000000005", "4294967301", "18446744073709551621"};
        for (String number : none) {
            Check.due("tithe " + number, 1 + 16 * 6, Check.province(x, "tithe " + number + ";"));
            Check.due("alone 1+" + number, 1 + 16 * 8, Check.province(x, "alone 1+" + number + ";"));
        }
        Check.due("9999 is a NUMBER, but not as told", 4 + 16 * 6, Check.province(x, "tithe 9999;"));
        Check.due("a letter right behind", 0, Check.province(x, "harvest h grows 300odds 9;"));
        Check.due("a letter right behind four", 0, Check.province(x, "harvest h grows 0300odds 0009;"));
        Check.due("a letter right behind that can't stand there", 1 + 16 * 7, Check.province(x, "tithe 5a;"));
        Check.due("a word right behind", 0, Check.province(x, "alone 1and 2or 3;"));
        Check.due("a digit right behind a word", 0, Check.province(x, "tithe5;bar6;alone not7;"));
        Check.due("five digits and a letter", 1 + 16 * 16, Check.province(x, "harvest h grows 00100odds 9;"));
    }

    /** 'TOKENS, each as long as can be'. */
    private static void asLongAsCanBe() {
        TaxFarm x = new TaxFarm();
        Check.due("town plain is two", 1, Check.province(x, "townplain"));
        Check.due("not not is two", 1 + 16 * 6, Check.province(x, "alone notnot 1;"));
        Check.due("12 is one", 0, Check.province(x, "town a plain means 12; company c fair coins 1; alone 12-3;"));
        x.bid(0, 1);
        x.award();
        Check.due("12 less 3", 9, x.spare(0));
        Check.due("signs are one each", 1 + 16 * 9, Check.province(x, "alone 1 ++ 1;"));
        Check.due("signs are one each", 1 + 16 * 9, Check.province(x, "alone 1 <= 1;"));
        Check.due("signs are one each", 0, Check.province(x, "alone((1))*((2));"));
    }

    /** 'the end being one at the text's length', blanks at the end too. */
    private static void endOfText() {
        String[] texts = {"town", "tithe 5", "alone 1 +", "juror", "tithe 5;bar"};
        for (String text : texts) {
            for (int more = 0; more <= 3; more++) {
                TaxFarm x = new TaxFarm();
                Check.due(text + " and " + more + " blanks", 1 + 16 * (text.length() + more),
                        Check.province(x, text + " ".repeat(more)));
                Check.due("the same of a PAST", 1 + 16 * (5 + more), Check.past(x, "award" + "\n".repeat(more)));
            }
        }
    }
}
