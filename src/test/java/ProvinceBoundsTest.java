import java.util.List;
import java.util.function.Supplier;

/** Promise 3 and the terms of a PROVINCE: how many there may be, from where to where, and its FAULTS. */
public final class ProvinceBoundsTest {
    private static final String[] NUMBERED = {"town", "company", "harvest", "juror"};

    public static void main(String[] args) {
        numbers();
        usualNumbers();
        howMany();
        howManyOfAll();
        noTwoAlike();
        alikeByOneLetter();
        reservedWords();
        wordsThatAreNames();
        kindsAndSorts();
        holdsACompanyTold();
        onceEach();
        everyPrefix();
        everyTokenWrong();
        everyTokenGone();
        cutShort();
        parts();
        partsByPlace();
        tests();
        leastKindOfFirstToken();
        wraps();
        shorterLaws();
        allStays();
        allIsNew();
        emptyIsAProvince();
        Check.end();
    }

    private static void due(String text, int kind, int place) {
        Check.due("province: " + text, kind == 0 ? 0 : kind + 16 * place, Check.province(new TaxFarm(), text));
    }

    /** A NUMBER at its bounds, one below and one beyond: the text has # where it stands. */
    private static void range(String text, int least, int most) {
        int place = text.indexOf('#');
        for (int number : new int[] {0, 1, least - 1, least, least + 1, most - 1, most, most + 1, 9999}) {
            if (number >= 0) {
                boolean good = number >= least && number <= most;
                int kind = good ? 0 : number > 9999 ? 1 : 4;
                due(text.replace("#", Integer.toString(number)), kind, place);
            }
        }
        due(text.replace("#", "0" + most), most > 999 ? 1 : 0, place);
        due(text.replace("#", "x"), 1, place);
        due(text.replace("#", "-1"), 1, place);
    }

    private static void numbers() {
        for (String kind : new String[] {"plain", "rich", "proud", "port"}) {
            range("town a " + kind + " means #;", 0, 999);
        }
        for (String sort : new String[] {"honest", "straw", "noble", "fair"}) {
            range("company c " + sort + " coins #;", 0, 9999);
        }
        range("harvest h grows # odds 1;", 0, 300);
        range("harvest h grows 1 odds #;", 1, 9);
        range("company c fair coins 1; juror j holds c price #;", 0, 999);
        range("tithe #;", 0, 100);
        range("bar #;", 0, 999);
        TaxFarm x = Check.farm("town a plain means 0; town b plain means 999; company c fair coins 0; company d fair coins 9999;"
                + "juror j holds c price 0; juror k holds d price 999;");
        Check.due("the least means", 0, x.town(0, 1));
        Check.due("the most means", 999, x.town(1, 1));
        Check.due("the fewest coins", 0, x.company(0, 1));
        Check.due("the most coins", 9999, x.company(1, 1));
        Check.due("the least price", 0, x.juror(0, 1));
        Check.due("the highest price", 999, x.juror(1, 1));
    }

    /** 'tithe: of a hundred 0 to 100 (10). bar 0 to 999 (0).' */
    private static void usualNumbers() {
        int[] tithes = {0, 1, 10, 99, 100};
        for (int tithe : tithes) {
            TaxFarm x = Check.farm("town a plain means 100; harvest h grows 100 odds 1; tithe " + tithe + ";");
            Check.due("tithe " + tithe, tithe, x.worth(1));
        }
        TaxFarm x = Check.farm("town a plain means 100; harvest h grows 100 odds 1;");
        Check.due("the usual tithe", 10, x.worth(1));
        for (int bar : new int[] {-1, 0, 1, 999}) {
            String told = bar < 0 ? "" : "bar " + bar + ";";
            TaxFarm y = Check.farm("town a plain means 999; company c honest coins 9; company d fair coins 9;"
                    + "harvest h grows 300 odds 1; juror j holds d price 1; tithe 0;" + told);
            y.bid(0, 9);
            y.award();
            y.year(0);
            if (bar > 0) {
                y.take(0, bar);
            }
            Check.due("greed at " + told, 1, y.juror(0, 3));
            y.take(0, 1);
            Check.due("greed beyond " + told, 0, y.juror(0, 3));
        }
    }

    private static String told(int sort, int index) {
        String name = NUMBERED[sort].charAt(0) + "x" + (char) ('a' + index);
        switch (sort) {
            case 0: return "town " + name + " port means " + index + ";";
            case 1: return "company " + name + " fair coins " + index + ";";
            case 2: return "harvest " + name + " grows " + index + " odds 1;";
            default: return "juror " + name + " holds cxa price " + index + ";";
        }
    }

    private static String told(int sort, int from, int to) {
        StringBuilder text = new StringBuilder();
        for (int i = from; i < to; i++) {
            text.append(told(sort, i));
        }
        return text.toString();
    }

    /** '6 at most', '5 at most': FAULT 5 at the words town of a seventh, company, harvest, juror of a sixth. */
    private static void howMany() {
        for (int sort = 0; sort < 4; sort++) {
            String start = sort == 3 ? told(1, 0, 1) : "";
            int most = sort == 0 ? 6 : 5;
            for (int count = 0; count <= most; count++) {
                TaxFarm x = Check.farm(start + told(sort, 0, count));
                Check.due("count of " + NUMBERED[sort], count, x.count(sort));
            }
            String full = start + told(sort, 0, most);
            int place = full.length();
            due(full + told(sort, most, most + 1), 5, place);
            due(full + NUMBERED[sort], 5, place);
            due(full + NUMBERED[sort] + " 5 ,", 5, place);
            due(full + "\n " + NUMBERED[sort] + " town", 5, place + 2);
            due(full + NUMBERED[sort] + "s", 1, place);
            due(full + "tithe 5;" + NUMBERED[sort], 5, place + 8);
            for (int other = 0; other < 4; other++) {
                if (other != sort) {
                    due(full + NUMBERED[other], 1, place + NUMBERED[other].length());
                }
            }
        }
    }

    /** Numbered as told, all of them at once, in whichever order. */
    private static void howManyOfAll() {
        StringBuilder text = new StringBuilder();
        for (int i = 0; i < 6; i++) {
            for (int sort = i < 5 ? 3 : 0; sort >= 0; sort--) {
                if (sort != 1) {
                    text.append(told(sort, i));
                }
            }
        }
        TaxFarm x = new TaxFarm();
        String all = told(1, 0, 5) + text;
        Check.due("all of all", 0, Check.province(x, all));
        int[] most = {6, 5, 5, 5};
        for (int sort = 0; sort < 4; sort++) {
            Check.due("count(" + sort + ")", most[sort], x.count(sort));
            due(all + NUMBERED[sort], 5, all.length());
        }
        for (int i = 0; i < 6; i++) {
            Check.due("means of " + i, i, x.town(i, 1));
            Check.due("coins of " + i, i < 5 ? i : -1, x.company(i, 1));
            Check.due("price of " + i, i < 5 ? i : -2, x.juror(i, 1));
            Check.due("worth by " + i, i < 5 ? 6 : -1, x.worth(1 << i));
        }
        Check.due("worth by all", 6, x.worth(31));
        Check.due("worth by one more", -1, x.worth(32));
    }

    private static String named(int sort, String name) {
        switch (sort) {
            case 0: return "town " + name + " port means 1;";
            case 1: return "company " + name + " fair coins 1;";
            case 2: return "harvest " + name + " grows 1 odds 1;";
            default: return "juror " + name + " holds c price 1;";
        }
    }

    /** 'no two (TOWNS, COMPANIES, HARVESTS, JURORS) are alike': FAULT 3 at the NAME told already. */
    private static void noTwoAlike() {
        String start = "company c fair coins 1;";
        for (int elder = 0; elder < 4; elder++) {
            for (int later = 0; later < 4; later++) {
                String first = start + named(elder, "same") + "tithe 5;";
                int place = first.length() + NUMBERED[later].length() + 1;
                due(first + named(later, "same"), 3, place);
                due(first + NUMBERED[later] + " same", 3, place);
                due(first + NUMBERED[later] + " same ,", 3, place);
                due(first + named(later, "sama"), 0, 0);
                due(first + named(later, "c"), 3, place);
            }
        }
        due(start + "juror j holds j", 2, 37);
        due(start + "juror j holds c price 1; juror j", 3, 54);
    }

    private static void alikeByOneLetter() {
        String[] names = {"a", "aa", "b", "ab", "ba", "z", "zz", "abcdefgh", "abcdefg", "bbcdefgh", "zzzzzzzz", "zzzzzzz", "aaaaaaaa"};
        for (String one : names) {
            for (String other : names) {
                String first = "town " + one + " rich means 1;";
                due(first + "harvest " + other + " grows 1 odds 1;", one.equals(other) ? 3 : 0, first.length() + 8);
            }
        }
    }

    /** 'A NAME is another WORD than ...': FAULT 1, wherever a NAME is to stand. */
    private static void reservedWords() {
        int count = 0;
        for (String word : Check.RESERVED) {
            count++;
            for (int sort = 0; sort < 4; sort++) {
                due("company c fair coins 1;" + named(sort, word), 1, 23 + NUMBERED[sort].length() + 1);
            }
            due("juror j holds " + word, 1, 14);
            due("company c fair coins 1; juror j holds " + word + " price 1;", 1, 38);
        }
        Check.due("words that are no names", 35, count);
    }

    private static void wordsThatAreNames() {
        String words = "wealth crop debt e test sum part past province n name kind sort tow towns nota an o plai honesty undo a z";
        for (String word : words.split(" ")) {
            for (int sort = 0; sort < 4; sort++) {
                due("company c fair coins 1;" + named(sort, word), 0, 0);
            }
            due("company " + word + " fair coins 1; juror j holds " + word + " price 1;", 0, 0);
        }
        TaxFarm x = Check.farm("town wealth plain means 9; company crop fair coins 9; alone wealth - 2;");
        x.bid(0, 1);
        x.award();
        Check.due("a fact stays one beside such a name", 7, x.spare(0));
    }

    private static void kindsAndSorts() {
        String[] kinds = {"plain", "rich", "proud", "port"};
        String[] sorts = {"honest", "straw", "noble", "fair"};
        for (int i = 0; i < 4; i++) {
            TaxFarm x = Check.farm("town a " + kinds[i] + " means 1; company c " + sorts[i] + " coins 1;");
            Check.due(kinds[i], i, x.town(0, 0));
            Check.due(sorts[i], i, x.company(0, 0));
            due("town a " + sorts[i] + " means 1;", 1, 7);
            due("company c " + kinds[i] + " coins 1;", 1, 10);
        }
        for (String wrong : new String[] {"big", "5", "means", ";", "plains", "not"}) {
            due("town a " + wrong + " means 1;", 1, 7);
            due("company c " + wrong + " coins 1;", 1, 10);
        }
    }

    /** 'of a COMPANY told': FAULT 2 at a NAME of none. */
    private static void holdsACompanyTold() {
        String start = "town t port means 1; company c fair coins 1; harvest h grows 1 odds 1; juror k holds c price 1;";
        int place = start.length() + 14;
        due(start + "juror j holds c price 1;", 0, 0);
        for (String name : new String[] {"t", "h", "k", "j", "x", "cc", "wealth"}) {
            due(start + "juror j holds " + name + " price 1;", 2, place);
            due(start + "juror j holds " + name, 2, place);
            due(start + "juror j holds " + name + " ,", 2, place);
        }
        due("juror j holds c price 1; company c fair coins 1;", 2, 14);
        TaxFarm x = Check.farm("company c fair coins 1;");
        Check.due("a company of an elder PROVINCE", 2 + 16 * 14, Check.province(x, "juror j holds c price 1;"));
        TaxFarm y = Check.farm(told(1, 0, 5) + "juror j holds cxe price 1; juror k holds cxa price 2;");
        Check.due("the last company", 4, y.juror(0, 0));
        Check.due("the first company", 0, y.juror(1, 0));
    }

    /** 'tithe, bar, alone, owes: once each': FAULT 3 at the word, a second time. */
    private static void onceEach() {
        String[] words = {"tithe", "bar", "alone", "owes"};
        for (int i = 0; i < 4; i++) {
            StringBuilder others = new StringBuilder();
            for (int j = 0; j < 4; j++) {
                if (j != i) {
                    others.append(words[j]).append(" 3;");
                }
            }
            String once = words[i] + " 5;";
            due(once + others, 0, 0);
            due(others + once, 0, 0);
            due(once + words[i], 3, once.length());
            due(once + once, 3, once.length());
            due(once + others + words[i] + " , ", 3, once.length() + others.length());
            TaxFarm x = Check.farm(once);
            Check.due("once again in another PROVINCE", 0, Check.province(x, once));
            Check.due("a FAULT behind it", 1 + 16 * once.length(), Check.province(x, once + "x"));
            Check.due("once again behind a FAULT", 0, Check.province(x, once));
        }
    }

    private static final String WHOLE = "town a plain means 1 ; company c fair coins 2 ; harvest h grows 3 odds 4 ; "
            + "juror j holds c price 5 ; tithe 6 ; bar 7 ; alone ( wealth + 1 ) * 2 < 3 and not crop or debt = 4 - 5 ; owes 9 ;";

    /** A text that ends within a statement is wrong at its end; one that ends between them is not. */
    private static void everyPrefix() {
        due(WHOLE, 0, 0);
        StringBuilder text = new StringBuilder();
        for (String token : WHOLE.split(" ")) {
            text.append(token);
            due(text.toString(), token.equals(";") ? 0 : 1, text.length());
            text.append(' ');
            due(text.toString(), token.equals(";") ? 0 : 1, text.length());
        }
    }

    /** What can't stand anywhere is wrong at its own place, whatever stands behind it. */
    private static void everyTokenWrong() {
        String[] tokens = WHOLE.split(" ");
        for (int i = 0; i < tokens.length; i++) {
            StringBuilder text = new StringBuilder();
            int place = 0;
            for (int j = 0; j < tokens.length; j++) {
                if (j == i) {
                    place = text.length();
                }
                text.append(j == i ? "?" : tokens[j]).append(' ');
            }
            due(text.toString(), 1, place);
        }
    }

    /** A token left out, or ; in its place, or another one twice: whatever FAULT that is, all stays. */
    private static void everyTokenGone() {
        String[] tokens = WHOLE.split(" ");
        for (int i = 0; i < tokens.length; i++) {
            for (String instead : new String[] {"", ";", tokens[i] + " " + tokens[i], ")", "and", "5"}) {
                StringBuilder text = new StringBuilder();
                for (int j = 0; j < tokens.length; j++) {
                    text.append(j == i ? instead : tokens[j]).append(' ');
                }
                TaxFarm x = Check.farm("town q rich means 77; company r noble coins 66; tithe 55;");
                x.bid(0, 44);
                String before = Look.at(x);
                boolean good = Check.province(x, text.toString()) == 0;
                Check.due("all stays by a FAULT: " + text, !good, before.equals(Look.at(x)));
                Check.due("the TOWN is the same: " + text, !good, x.town(0, 1) == 77);
            }
        }
    }

    /** Behind which tokens of its law alone may end: ) 2 3 crop debt 4. */
    private static final List<Integer> WHOLE_LAWS = List.of(5, 7, 9, 12, 14, 16);

    /** A statement that ends too early by a ; of its own is wrong there, and all stays. */
    private static void cutShort() {
        for (String statement : WHOLE.split(" ; | ;")) {
            String[] tokens = statement.split(" ");
            StringBuilder text = new StringBuilder("company k fair coins 2; juror l holds k price 5; ");
            for (int i = 0; i < tokens.length - 1; i++) {
                text.append(tokens[i].equals("c") && i == 3 ? "k" : tokens[i]).append(' ');
                TaxFarm x = Check.farm("town q rich means 77; company r noble coins 66;");
                int fault = Check.province(x, text + "; town z port means 1;");
                boolean whole = tokens[0].equals("alone") && WHOLE_LAWS.contains(i);
                Check.due(text + ";", whole ? 0 : 1 + 16 * text.length(), fault);
                Check.due("all stays behind " + text, whole ? 1 : 77, x.town(0, 1));
            }
        }
    }

    /** 'no PART lies within 5 of not and ( )': four are fine, and each PART within five is one too many. */
    private static void parts() {
        for (int nots = 0; nots <= 6; nots++) {
            for (int opened = 0; opened <= 6 - nots; opened++) {
                for (String part : new String[] {"1", "wealth", "crop", "debt"}) {
                    int depth = nots + opened;
                    due("alone " + "not ".repeat(nots) + "(".repeat(opened) + part + ")".repeat(opened) + ";",
                            depth > 4 ? 5 : 0, 6 + placeOfPart(nots));
                    due("owes " + "(".repeat(opened) + "not ".repeat(nots) + part + ")".repeat(opened) + ";",
                            depth > 4 ? 5 : 0, 5 + (opened >= 5 ? 5 : opened + 4 * (5 - opened)));
                }
            }
        }
    }

    /** Where the PART begins that lies within five, if nots come ahead of what is opened. */
    private static int placeOfPart(int nots) {
        return nots >= 5 ? 20 : 4 * nots + 5 - nots;
    }

    private static void partsByPlace() {
        due("alone (((((1", 5, 11);
        due("alone ((((((1", 5, 11);
        due("alone (((((not 1", 5, 11);
        due("alone not not not not not not 1;", 5, 26);
        due("alone not not not not not (1);", 5, 26);
        due("alone ((((1+(2", 5, 13);
        due("alone ((((1))))+((((2))))*((((3))))<((((4))))and((((5))));", 0, 0);
        due("alone ((((1))))+((((2+(3))))));", 5, 23);
        due("alone ((((1))+(2)));", 0, 0);
        due("alone 1 and not not not not 2 or not(not(not(not 3)));", 5, 44);
        due("alone 1 and not not not not 2 or not(not(not 3));", 5, 45);
        due("alone 1 and not not not not 2 or not(not(3));", 0, 0);
        due("alone not not not not 1 + not not not not 2;", 0, 0);
        due("owes ((((debt)))); alone ((((crop))));", 0, 0);
        due("owes ((((debt)))); alone (((((crop)))));", 5, 30);
    }

    /** 'TEST: SUM, or SUM < SUM, or SUM = SUM': one of them, but many of all others. */
    private static void tests() {
        due("alone 1<2<3;", 1, 9);
        due("alone 1<2=3;", 1, 9);
        due("alone 1=2<3;", 1, 9);
        due("alone 1=2=3;", 1, 9);
        due("alone 1=2 and 3<4 or 5=6;", 0, 0);
        due("alone 1=2 and 3<4<5;", 1, 17);
        due("alone (1<2)<3;", 0, 0);
        due("alone (1<2<3);", 1, 10);
        due("alone 1+2-3+4*5*6-7<8*9-10+11;", 0, 0);
        for (String wrong : new String[] {"+", "-", "*", "<", "=", "and", "or", ")", ";", "means", "x", "town"}) {
            due("alone " + wrong, 1, 6);
            due("alone (" + wrong, 1, 7);
            due("alone not " + wrong, 1, 10);
            for (String join : new String[] {"+", "-", "*", "<", "=", "and ", "or "}) {
                due("alone 1 " + join + wrong, 1, 8 + join.length());
            }
        }
        for (String wrong : new String[] {"(", "not", "1", "wealth", "x", "means"}) {
            due("alone 1 " + wrong, 1, 8);
            due("alone (1 " + wrong, 1, 9);
            due("alone (1) " + wrong, 1, 10);
            due("alone crop " + wrong, 1, 11);
        }
        due("alone (1;", 1, 8);
        due("alone 1);", 1, 7);
        due("alone ((1);", 1, 10);
        due("alone (1));", 1, 9);
    }

    /** 'of the first token from the left that is wrong the least'. */
    private static void leastKindOfFirstToken() {
        due("tithe 101; tithe 5; ?", 4, 6);
        due("? tithe 101;", 1, 0);
        due("tithe 5; tithe 101; ?", 3, 9);
        due("town a plain means 1000; town a", 4, 19);
        due("town a plain means 1; town a plain means 1000;", 3, 27);
        due("juror j holds x price 1000; ?", 2, 14);
        due(told(0, 0, 6) + "town txa ?", 5, told(0, 0, 6).length());
        due("alone (((((means", 1, 11);
        due("alone (((((;", 1, 11);
        due("alone (((((", 1, 11);
        due("alone (((((1 ?", 5, 11);
        due("alone (((((99999", 1, 11);
        due("alone not not not not not and", 1, 26);
    }

    /** 'ints wrap' in an E: what a town of 999 means gives. */
    private static void gives(int want, String law) {
        TaxFarm x = Check.farm("town a plain means 999; company c fair coins 9; alone " + law + ";");
        x.bid(0, 1);
        x.award();
        Check.due("alone " + law, want, x.spare(0));
    }

    private static void wraps() {
        String most = "(8191*8192*32+8191*32+31)";
        String power = "4096*4096*128";
        gives(999, most);
        gives(1, most + "=" + most);
        gives(1, power + "<0");
        gives(1, power + "-1=" + most);
        gives(1, "0-" + power + "=" + power);
        gives(1, most + "+1<" + most);
        gives(1, most + "+1<0");
        gives(0, most + "+1");
        gives(999, power + "-1");
        gives(0, power + "*2");
        gives(1, "not(" + power + "*2)");
        gives(1, "4096*4096*256=0");
        gives(1, "4096*4096*256+1");
        gives(1, power + "and 1");
        gives(7, power + "+" + power + "+7");
        gives(1, "0-" + most + "-1=" + power);
        gives(999, "0-" + most + "-2");
    }

    /** Nothing of a longer law is left in a shorter one that is told behind it, nor of one with a FAULT. */
    private static void shorterLaws() {
        String[] laws = {"7", "not 5", "not 0", "5 - 9", "3 + 4 * 2", "not not 6", "wealth < 3", "1 - 2 - 3 - 4", "(((not 9)))"};
        int[] gives = {7, 0, 1, 0, 11, 1, 0, 0, 0};
        for (String elder : laws) {
            for (int i = 0; i < laws.length; i++) {
                TaxFarm x = new TaxFarm();
                Check.due("elder", 0, Check.province(x, "alone " + elder + "; owes " + elder + ";"));
                Check.due("elder with a FAULT", true, Check.province(x, "alone " + elder + "; owes " + elder + " ?") != 0);
                Check.due("elder again", 0, Check.province(x, "alone " + elder + "; owes " + elder + ";"));
                Check.due("later", 0, Check.province(x, "town a plain means 99; company c fair coins 9; harvest h grows 0 odds 1; alone "
                        + laws[i] + "; owes " + laws[i] + ";"));
                x.bid(0, 1);
                x.award();
                x.year(0);
                Check.due("owes " + laws[i] + " behind " + elder, gives[i], x.town(0, 3));
                Check.due("alone " + laws[i] + " behind " + elder, gives[i], x.spare(0));
            }
        }
    }

    /** '(all stays then)': whatever FAULT it is, in whatever was done. */
    private static void allStays() {
        Supplier<TaxFarm> made = () -> {
            TaxFarm x = Check.farm("town a rich means 90; town b plain means 80; company c fair coins 99; company d noble coins 50;"
                    + "harvest h grows 100 odds 2; harvest i grows 50 odds 3; juror j holds d price 4; juror k holds d price 5;"
                    + "tithe 20; bar 3; alone 6; owes debt + 1;");
            Check.due("past", 0, Check.past(x, "bid c 4; award; year h;"));
            x.bid(0, 30);
            x.mark(1, false);
            x.award();
            x.year(0);
            x.take(0, 50);
            x.lend(1, 7);
            x.spare(1);
            x.bribe(0);
            x.tale(1, 25);
            return x;
        };
        String[] faulty = {"?", "town", "town z", "town z port means 1000;", "juror z holds a", "tithe 5; tithe",
            "town z port means 1;" + told(0, 0, 6), "alone (((((1", "alone 7; owes 8; bar 9; tithe 10; town z port means 7; x",
            told(1, 0, 5) + told(2, 0, 5) + told(3, 0, 5) + told(0, 0, 6) + "bar 50; tithe 60; alone 1; owes 0; bar"};
        for (String text : faulty) {
            Look.refused("province: " + text, 1, made, x -> Check.province(x, text) != 0 ? 1 : 0);
        }
    }

    /** Each thing that a PROVINCE begins with, behind one in which it was otherwise. */
    private static void allIsNew() {
        String text = "town a rich means 90; town b plain means 80; company c fair coins 99; company d noble coins 50;"
                + "harvest h grows 100 odds 2; juror j holds d price 4; juror k holds d price 5; owes debt + 1;";
        for (int when = 0; when < 4; when++) {
            TaxFarm x = Check.farm(text);
            Check.due("past", 0, Check.past(x, "bid c 4; award; year h;"));
            x.bid(0, 30);
            x.bid(1, 20);
            x.tale(1, 25);
            x.tale(0, 5);
            for (int mark = 0; mark < 4; mark++) {
                x.mark(mark, false);
            }
            if (when >= 1) {
                x.award();
                x.lend(1, 7);
                x.bribe(0);
            }
            if (when >= 2) {
                x.year(0);
                x.take(0, 50);
                x.spare(1);
            }
            if (when >= 3) {
                for (int i = 0; i < 4; i++) {
                    x.year(0);
                }
                x.take(0, 60);
                x.spare(1);
                x.bribe(1);
                x.close();
            }
            Check.due("told anew", 0, Check.province(x, text));
            String seen = Look.through(x);
            String fresh = Look.through(Check.farm(text));
            Check.due("all is new, " + when + "\n" + seen + "\ninstead of\n" + fresh + "\n: it", true, seen.equals(fresh));
        }
    }

    /** 'any number of': none, too; it is the PROVINCE then, as on a new object. */
    private static void emptyIsAProvince() {
        for (String text : new String[] {"", " ", "\n\n"}) {
            TaxFarm x = Check.farm("town a rich means 90; company c fair coins 99; harvest h grows 1 odds 1; tithe 5;");
            Check.past(x, "sue;");
            x.bid(0, 9);
            x.mark(2, false);
            x.award();
            Check.due("a PROVINCE of nothing", 0, Check.province(x, text));
            Check.due("as a new object", true, Look.through(x).equals(Look.through(new TaxFarm())));
        }
    }
}
