import java.util.function.Supplier;

/** Promises 4 and 20 and the terms of a PAST: its lines, its FAULTS, and what JUDGED says at its bounds. */
public final class PastBoundsTest {
    private static final String TEXT = "town t plain means 100; company c honest coins 50; harvest h grows 100 odds 1;"
            + "juror j holds c price 5; town u port means 10; company d noble coins 9999; harvest i grows 0 odds 1;"
            + "juror k holds d price 0;";
    /** Each line word with what stands behind it: a NAME by its first letter, a NUMBER as #. */
    private static final String[] LINES = {"bid c #", "award", "year h", "take t #", "lend t #", "call t #", "spare t",
        "bribe j", "sue", "close"};
    private static final int[] OTHERS = {-1, 3, 4, Integer.MIN_VALUE, Integer.MAX_VALUE};

    public static void main(String[] args) {
        numbers();
        namesOfAll();
        wordsThatAreNoNames();
        namesComeAheadOfNumbers();
        noOtherLine();
        everyPrefix();
        everyTokenGone();
        howManyLines();
        fortyFirst();
        anew();
        none();
        allStays();
        judgedOthers();
        judgedFirst();
        judgedLines();
        judgedLeavesOut();
        judgedFromTheBegin();
        Check.end();
    }

    private static void due(String text, int kind, int place) {
        Check.due("past: " + text, kind == 0 ? 0 : kind + 16 * place, Check.past(Check.farm(TEXT), text));
    }

    /** 'a COMPANY, 0 to 9999'; 'TOWNS, 1 to 9999'. */
    private static void numbers() {
        for (String word : new String[] {"bid c", "take t", "lend t", "call t"}) {
            int place = word.length() + 1;
            due(word + " 0;", word.equals("bid c") ? 0 : 4, place);
            due(word + " 0000;", word.equals("bid c") ? 0 : 4, place);
            for (String number : new String[] {"1", "2", "0001", "9998", "9999"}) {
                due(word + " " + number + ";", 0, 0);
            }
            for (String number : new String[] {"10000", "00001", "99999", "-1", "x", "t", ";", "award"}) {
                due(word + " " + number + ";", 1, place);
            }
            due(word + " 1 1;", 1, place + 2);
            due(word + ";", 1, word.length());
            due(word, 1, word.length());
        }
    }

    /** FAULT 2 'of no COMPANY (bid), of no HARVEST (year), of no TOWN (take, lend, call, spare), of no JUROR (bribe)'. */
    private static void namesOfAll() {
        String[] names = {"t", "u", "c", "d", "h", "i", "j", "k", "x", "tt", "wealth", "crop", "debt", "zzzzzzzz"};
        for (String line : LINES) {
            String[] parts = line.split(" ");
            if (parts.length > 1) {
                for (String name : names) {
                    String number = parts.length > 2 ? " 7" : "";
                    boolean known = sameSort(parts[1], name);
                    due(parts[0] + " " + name + number + ";", known ? 0 : 2, parts[0].length() + 1);
                }
            }
        }
    }

    private static boolean sameSort(String one, String other) {
        return other.length() == 1 && "tu cd hi jk".indexOf(other) / 3 == "tu cd hi jk".indexOf(one) / 3
                && "tu cd hi jk".indexOf(other) >= 0;
    }

    /** A NAME is another WORD than these: FAULT 1, not 2. */
    private static void wordsThatAreNoNames() {
        for (String line : LINES) {
            String[] parts = line.split(" ");
            int place = parts[0].length() + 1;
            for (String word : Check.RESERVED) {
                due(parts[0] + " " + word + ";", 1, place);
            }
            for (String word : new String[] {"5", "(", "abcdefghi", "T", "00000", "?"}) {
                due(parts[0] + " " + word, 1, place);
            }
        }
    }

    private static void namesComeAheadOfNumbers() {
        due("take x 0;", 2, 5);
        due("take x ?", 2, 5);
        due("take x", 2, 5);
        due("take t 0 ?", 4, 7);
        due("take t 0", 4, 7);
        due("sue; take x; ?", 2, 10);
        due("sue; ? take x;", 1, 5);
        due("award; bid c 1; bid c 1; bid c 10000;", 1, 31);
    }

    private static void noOtherLine() {
        String words = "town company harvest juror tithe bar alone owes means coins grows odds holds price plain rich proud port "
                + "honest straw noble fair not and or undo judged tale mark t c h j bids awar suee abcdefghi 1 0 ( ) < = + - * ; A";
        for (String word : words.split(" ")) {
            due(word, 1, 0);
            due("sue;" + word + " t 1;", 1, 4);
        }
        for (String line : LINES) {
            TaxFarm x = new TaxFarm();
            Check.due("no statement of a PROVINCE: " + line, 1, Check.province(x, line.replace("#", "1") + ";"));
        }
    }

    private static void everyPrefix() {
        for (String line : LINES) {
            StringBuilder text = new StringBuilder();
            String[] tokens = (line.replace("#", "5") + " ;").split(" ");
            for (int i = 0; i < tokens.length; i++) {
                due(text + "?", 1, text.length());
                cutShort(text.toString(), i == tokens.length - 1);
                text.append(tokens[i]);
                due(text.toString(), i == tokens.length - 1 ? 0 : 1, text.length());
                text.append("\n ");
                due(text.toString(), i == tokens.length - 1 ? 0 : 1, text.length());
            }
            due(text + ";", 1, text.length());
        }
    }

    /** A line that ends too early by a ; of its own: the elder PAST stays. */
    private static void cutShort(String begun, boolean whole) {
        TaxFarm x = Check.farm(TEXT);
        Check.due("past", 0, Check.past(x, "bid c 40; award;"));
        Check.due("past: " + begun + ";", whole ? 0 : 1 + 16 * begun.length(), Check.past(x, begun + "; sue;"));
        Check.due("judged behind " + begun, whole ? 0 : 40, x.judged(1));
    }

    /** A token left out, or ; in its place, or another one twice: by whatever FAULT that is the elder PAST stays. */
    private static void everyTokenGone() {
        for (String line : LINES) {
            String[] tokens = (line.replace("#", "5") + " ;").split(" ");
            for (int i = 0; i < tokens.length; i++) {
                for (String instead : new String[] {"", ";", tokens[i] + " " + tokens[i], "5", "x"}) {
                    StringBuilder text = new StringBuilder("sue ; ");
                    for (int j = 0; j < tokens.length; j++) {
                        text.append(j == i ? instead : tokens[j]).append(' ');
                    }
                    TaxFarm x = Check.farm(TEXT);
                    Check.due("past", 0, Check.past(x, "bid c 40; award; bribe k;"));
                    boolean good = Check.past(x, text + "sue;") == 0;
                    Check.due("lines behind: " + text, 3, x.count(9));
                    Check.due("the elder is judged behind: " + text, good ? 0 : 40, x.judged(1));
                }
            }
        }
    }

    /** '40 lines at most'. */
    private static void howManyLines() {
        for (int count = 0; count <= 40; count++) {
            TaxFarm x = Check.farm(TEXT);
            Check.due("a PAST of " + count, 0, Check.past(x, "sue;".repeat(count)));
            Check.due("its lines", count, x.count(9));
        }
        for (String line : LINES) {
            TaxFarm x = Check.farm(TEXT);
            String text = line.replace("#", "1") + ";";
            Check.due("40 times " + text, 0, Check.past(x, text.repeat(40)));
            Check.due("its lines", 40, x.count(9));
            Check.due("41 times " + text, 5 + 16 * 40 * text.length(), Check.past(x, text.repeat(41)));
            Check.due("the elder stays", 40, x.count(9));
        }
    }

    /** FAULT 5 at 'the first word of a 41st line', whatever stands behind it; 1 if it begins no line. */
    private static void fortyFirst() {
        String forty = "award;".repeat(40);
        for (String line : LINES) {
            String word = line.split(" ")[0];
            due(forty + word, 5, 240);
            due(forty + "\n" + word + " ?", 5, 241);
            due(forty + word + " means", 5, 240);
            due(forty + word + "s", 1, 240);
        }
        for (String word : new String[] {"town", "x", "?", ";", "5", "abcdefghi", "not"}) {
            due(forty + word, 1, 240);
        }
        due(forty + "   ", 0, 0);
    }

    /** 'A PAST is the PAST': a later one stands in place of the elder. */
    private static void anew() {
        TaxFarm x = Check.farm(TEXT);
        Check.due("three lines", 0, Check.past(x, "bid c 7; award; lend t 5;"));
        Check.due("three", 3, x.count(9));
        Check.due("judged", 7, x.judged(1));
        Check.due("two lines", 0, Check.past(x, "bid c 9; award;"));
        Check.due("two", 2, x.count(9));
        Check.due("judged", 9, x.judged(1));
        Check.due("none is lent", 110, x.judged(2));
        Check.due("nothing", 0, x.past());
        Check.due("no lines", 0, x.count(9));
        Check.due("judged", 0, x.judged(1));
        Check.past(x, "bid c 9; award;");
        Check.due("the same PROVINCE again", 0, Check.province(x, TEXT));
        Check.due("no PAST", 0, x.count(9));
        Check.due("judged", 0, x.judged(1));
    }

    /** 'At first: nothing': no NAME is told. */
    private static void none() {
        for (String line : LINES) {
            String[] parts = line.split(" ");
            TaxFarm x = new TaxFarm();
            int want = parts.length == 1 ? 0 : 2 + 16 * (parts[0].length() + 1);
            Check.due("of nothing: " + line, want, Check.past(x, line.replace("#", "1") + ";"));
            Check.due("lines", parts.length == 1 ? 1 : 0, x.count(9));
            Check.due("it can't be", parts.length == 1 ? 0 : -1, x.judged(0));
        }
        TaxFarm y = Check.farm(TEXT);
        Check.due("another PROVINCE", 0, Check.province(y, "town x plain means 1;"));
        Check.due("a NAME of the elder", 2 + 16 * 6, Check.past(y, "spare t;"));
        Check.due("a NAME of this one", 0, Check.past(y, "spare x;"));
        Check.due("a FAULT of a PROVINCE", 1 + 16 * 21, Check.province(y, "town z plain means 1;?"));
        Check.due("a NAME of it", 2 + 16 * 6, Check.past(y, "spare z;"));
    }

    /** 'likewise': all stays by a FAULT of a PAST, and but for the PAST all stays without one. */
    private static void allStays() {
        Supplier<TaxFarm> made = () -> {
            TaxFarm x = Check.farm(TEXT);
            Check.due("past", 0, Check.past(x, "bid c 4; award; year h; take t 30;"));
            x.bid(0, 30);
            x.mark(1, false);
            x.award();
            x.year(0);
            x.take(0, 50);
            x.lend(1, 7);
            x.bribe(0);
            x.tale(1, 25);
            return x;
        };
        for (String text : new String[] {"?", "bid", "bid x", "bid c 10000;", "take t 0;", "sue;".repeat(41), "sue; award; close; town",
            "award; bid c 50; year h; lend t 9; spare t; x"}) {
            Look.refused("past: " + text, 1, made, x -> Check.past(x, text) != 0 ? 1 : 0);
        }
        Look.refused("the same past", 0, made, x -> Check.past(x, "bid c 4; award; year h; take t 30;"));
    }

    /** '-2: others', with a PAST and without. */
    private static void judgedOthers() {
        for (String text : new String[] {"", "sue;", "bid c 5; award;"}) {
            TaxFarm x = Check.farm(TEXT);
            Check.past(x, text);
            for (int what : OTHERS) {
                Check.due("judged(" + what + ")", -2, x.judged(what));
            }
            Check.due("judged(2)", 110, x.judged(2));
        }
        TaxFarm y = new TaxFarm();
        for (int what : OTHERS) {
            Check.due("of nothing: judged(" + what + ")", -2, y.judged(what));
        }
    }

    /** 'the first line (from 0) that can't be', 'NONE: all can'. */
    private static void judgedFirst() {
        for (int good = 0; good <= 40; good++) {
            TaxFarm x = Check.farm(TEXT);
            Check.due("past", 0, Check.past(x, "bid c 5;".repeat(good) + "close;".repeat(40 - good)));
            Check.due("the first that can't be behind " + good, good == 40 ? -1 : good, x.judged(0));
        }
        TaxFarm y = Check.farm(TEXT);
        Check.past(y, "close; bid c 5; close; award; sue; sue;");
        Check.due("the first of three", 0, y.judged(0));
        Check.due("the others are done", 5, y.judged(1));
    }

    private static void judged(String text, int line, int state, int means) {
        TaxFarm x = Check.farm(TEXT);
        Check.due("past: " + text, 0, Check.past(x, text));
        Check.due("judged(0) of " + text, line, x.judged(0));
        Check.due("judged(1) of " + text, state, x.judged(1));
        Check.due("judged(2) of " + text, means, x.judged(2));
    }

    /** Each line at the bound by which it can be, and one beyond it. */
    private static void judgedLines() {
        judged("bid c 50;", -1, 0, 110);
        judged("bid c 51;", 0, 0, 110);
        judged("bid d 9999; award;", -1, 7499, 110);
        judged("bid c 0; award;", 1, 0, 110);
        judged("bid c 1; award; award;", 2, 1, 110);
        judged("bid c 1; award; bid c 1;", 2, 1, 110);
        judged("year h;", 0, 0, 110);
        judged("bid c 1; award; year i; year i; year i; year i; year i;", -1, 1, 110 + 4 * 5);
        judged("bid c 1; award; year h; year h; year h; year h; year h; year h;", 7, 1, 100 + 50 + 75 + 112 + 168 + 10 + 10 + 15 + 22 + 33);
        judged("bid c 1; award; take t 1;", 2, 1, 110);
        judged("bid c 1; award; year h; take t 100;", -1, 1, 110 - 45);
        judged("bid c 1; award; year h; take t 101;", 3, 1, 110);
        judged("bid c 1; award; year h; take t 10; take t 2;", -1, 1, 110 - 1);
        judged("bid c 1; award; lend t 49;", -1, 1, 110 + 49);
        judged("bid c 1; award; lend t 50;", 2, 1, 110);
        judged("bid c 1; award; lend t 9; call t 9;", -1, 1, 110);
        judged("bid c 1; award; lend t 9; call t 10;", 3, 1, 119);
        judged("bid c 1; award; spare t;", -1, 1, 90);
        judged("bid c 1; award; spare t; spare t;", 3, 1, 90);
        judged("bid c 1; award; spare u;", -1, 1, 100);
        judged("bid c 45; award; bribe j;", -1, 45, 110);
        judged("bid c 46; award; bribe j;", 2, 46, 110);
        judged("bid c 45; award; bribe j; bribe j;", 3, 45, 110);
        judged("bid c 50; award; bribe j;", 2, 50, 110);
        judged("bid c 50; award; bribe k;", -1, 50, 110);
        judged("bid c 50; award; bribe k; bribe k;", 3, 50, 110);
        judged("bid c 1; award; lend u 7; call t 7;", 3, 1, 117);
        judged("bid c 1; award; lend u 7; call u 7;", -1, 1, 110);
        judged("bid c 1; award; year h; take u 20;", -1, 1, 110 - 9);
        judged("bid c 1; award; year h; take u 21;", 3, 1, 110);
        judged("bribe j;", 0, 0, 110);
        judged("sue;", 0, 0, 110);
        judged("bid c 1; award; sue; sue;", -1, 1, 110);
        judged("close;", 0, 0, 110);
        judged("bid c 1; award; year i; year i; year i; year i; close;", 6, 1, 110 + 3 * 5);
        judged("bid c 1; award; year i; year i; year i; year i; year i; close; close;", 8, 1, 110 + 4 * 5);
    }

    /** '(lines that can't be are left out)': all is as if they were not told. */
    private static void judgedLeavesOut() {
        String[] good = {"bid c 20;", "award;", "year h;", "take t 60;", "lend u 7;", "call u 3;", "spare t;", "bribe j;", "sue;"};
        StringBuilder plain = new StringBuilder();
        StringBuilder mixed = new StringBuilder();
        for (String line : good) {
            plain.append(line);
            mixed.append("bid c 51; close; call t 9999; take u 9999;").append(line);
        }
        TaxFarm x = Check.farm(TEXT);
        TaxFarm y = Check.farm(TEXT);
        Check.due("plain", 0, Check.past(x, plain.toString()));
        Check.due("mixed", 5 + 16 * (8 * 42 + lengthOf(good, 8)), Check.past(y, mixed.toString()));
        Check.due("mixed but for its end", 0, Check.past(y, mixed.substring(0, 8 * 42 + lengthOf(good, 8))));
        Check.due("all of it can be", -1, x.judged(0));
        Check.due("not all of it can be", 0, y.judged(0));
        Check.past(x, plain.substring(0, plain.length() - 4));
        Check.due("the state", x.judged(1), y.judged(1));
        Check.due("means", x.judged(2), y.judged(2));
    }

    private static int lengthOf(String[] lines, int count) {
        int length = 0;
        for (int i = 0; i < count; i++) {
            length += lines[i].length();
        }
        return length;
    }

    /** What was done by hand, undone, told or marked changes nothing of what is judged, and is not changed by it. */
    private static void judgedFromTheBegin() {
        TaxFarm x = Check.farm(TEXT);
        Check.past(x, "bid c 20; award; year h; take t 60; bid c 1; lend u 7;");
        for (int step = 0; step < 8; step++) {
            Check.due("judged(0) at " + step, 4, x.judged(0));
            Check.due("judged(1) at " + step, 20, x.judged(1));
            Check.due("judged(2) at " + step, 110 - 25 + 7, x.judged(2));
            if (step % 3 == 0) {
                String before = Look.at(x);
                x.judged(step % 2);
                Check.due("nothing is done by it", true, before.equals(Look.at(x)));
            }
            switch (step) {
                case 0: x.bid(1, 400); break;
                case 1: x.award(); break;
                case 2: x.year(0); break;
                case 3: x.take(0, 99); break;
                case 4: x.mark(0, false); break;
                case 5: x.sue(); break;
                case 6: x.undo(); break;
                default: x.mark(0, true);
            }
        }
    }
}
