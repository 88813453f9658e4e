/** Promises 21, 22 and 27 to 30 at their bounds: WORTH, NEWS, TALES, KNEW, SECRET and NEXT. */
public final class OutlookBoundsTest {
    private static final int[] EXTREME = {-1, -2, Integer.MIN_VALUE, Integer.MAX_VALUE};

    public static void main(String[] args) {
        worthBits();
        worthOfNone();
        worthIsCut();
        worthByOdds();
        worthByTithe();
        worthAtMost();
        worthHeldOrNot();
        newsOfFew();
        newsMoreOrLess();
        newsOfEqualOnes();
        talesAtTheBounds();
        talesInPlaceOfOthers();
        othersOfKnew();
        knewAllSets();
        knewIsNow();
        secrets();
        nextOfNone();
        nextOfEqualOnes();
        nextPartsMost();
        nextAtMost();
        nextOfTheFirst();
        talesOfAllFive();
        nothingIsDone();
        Check.end();
    }

    private static String harvests(int count) {
        StringBuilder text = new StringBuilder("town a plain means 100; company c honest coins 9; tithe 100;");
        for (int i = 0; i < count; i++) {
            text.append("harvest h").append((char) ('a' + i)).append(" grows ").append(1 << i).append(" odds 1;");
        }
        return text.toString();
    }

    /** 'by some (bits); NONE: others, none of them'. */
    private static void worthBits() {
        for (int count = 0; count <= 5; count++) {
            TaxFarm x = Check.farm(harvests(count));
            for (int bits = -1; bits <= 65; bits++) {
                boolean some = bits > 0 && bits < 1 << count;
                Check.due("worth(" + bits + ") of " + count, some ? bits / Integer.bitCount(bits) : -1, x.worth(bits));
            }
            for (int bits : EXTREME) {
                Check.due("worth(" + bits + ") of " + count, -1, x.worth(bits));
            }
            Check.due("a bit far off", -1, x.worth(1 | 1 << 30));
            Check.due("the highest bit", -1, x.worth(1 | 1 << 31));
        }
    }

    private static void worthOfNone() {
        Check.due("of nothing", -1, new TaxFarm().worth(1));
        TaxFarm x = Check.farm("harvest h grows 300 odds 9; harvest i grows 0 odds 1;");
        Check.due("without TOWNS", 0, x.worth(1));
        Check.due("without TOWNS", 0, x.worth(3));
        TaxFarm y = Check.farm("town a plain means 0; harvest h grows 300 odds 9;");
        Check.due("without means", 0, y.worth(1));
        TaxFarm w = Check.farm("town a port means 0; harvest h grows 0 odds 9; tithe 100;");
        Check.due("a port's", 10, w.worth(1));
    }

    /** Each tithe is cut by itself, then the mean. */
    private static void worthIsCut() {
        TaxFarm x = Check.farm("town a plain means 19; town b plain means 19; harvest h grows 100 odds 1; harvest i grows 200 odds 1;");
        Check.due("1 and 1, not 3", 2, x.worth(1));
        Check.due("3 and 3, not 7", 6, x.worth(2));
        Check.due("the mean", 4, x.worth(3));
        TaxFarm y = Check.farm("town a plain means 10; harvest h grows 100 odds 1; harvest i grows 200 odds 1; tithe 10;");
        Check.due("1 and 2: 1", 1, y.worth(3));
        TaxFarm w = Check.farm("town a plain means 100; harvest h grows 100 odds 1; harvest i grows 109 odds 9; tithe 100;");
        Check.due("108.1", 108, w.worth(3));
        TaxFarm v = Check.farm("town a plain means 100; harvest h grows 99 odds 1; harvest i grows 100 odds 9; tithe 100;");
        Check.due("99.9", 99, v.worth(3));
    }

    private static void worthByOdds() {
        for (int one = 1; one <= 9; one += 4) {
            for (int other = 1; other <= 9; other += 4) {
                TaxFarm x = Check.farm("town a plain means 100; harvest h grows 100 odds " + one + "; harvest i grows 300 odds " + other
                        + "; tithe 100;");
                Check.due(one + " to " + other, (100 * one + 300 * other) / (one + other), x.worth(3));
                Check.due("by one alone", 100, x.worth(1));
                Check.due("by the other alone", 300, x.worth(2));
            }
        }
    }

    private static void worthByTithe() {
        for (int tithe : new int[] {0, 1, 99, 100}) {
            TaxFarm x = Check.farm("town a plain means 199; harvest h grows 100 odds 1; tithe " + tithe + ";");
            Check.due("a tithe of " + tithe, 199 * tithe / 100, x.worth(1));
        }
    }

    /** '(as if that YEAR came now)': half of the crop is added, means and crops are 9,999 at most. */
    private static void worthAtMost() {
        StringBuilder six = new StringBuilder("company c honest coins 9999; harvest h grows 300 odds 9; harvest z grows 0 odds 9; tithe 100;");
        for (char name = 'm'; name <= 'r'; name++) {
            six.append("town ").append(name).append(" port means 999;");
        }
        TaxFarm x = Check.held(six.toString(), 0, 1);
        for (int i = 0; i < 5; i++) {
            x.year(0);
        }
        Check.due("six of 9,999", 6 * 9999, x.worth(1));
        Check.due("six ports", 60, x.worth(2));
        Check.due("on the mean", (6 * 9999 + 60) / 2, x.worth(3));
        TaxFarm y = Check.held("town a plain means 999; company c honest coins 9999; harvest h grows 100 odds 1; tithe 100;", 0, 1);
        y.lend(0, 9000 - 10);
        y.year(0);
        y.take(0, 9989 - 10);
        Check.due("half of 10", 9994, y.worth(1));
        y.undo();
        y.take(0, 9989 - 20);
        Check.due("half of 20", 9999, y.worth(1));
        y.undo();
        y.take(0, 9989 - 30);
        Check.due("means at most", 9999, y.worth(1));
        y.undo();
        y.take(0, 9989 - 9);
        Check.due("half of 9, cut", 9993, y.worth(1));
    }

    private static void worthHeldOrNot() {
        TaxFarm x = Check.farm("town a plain means 100; company c honest coins 9; harvest h grows 100 odds 1; tithe 50;");
        Check.due("nobody holds it", 50, x.worth(1));
        x.bid(0, 9);
        x.award();
        Check.due("somebody holds it", 50, x.worth(1));
        for (int i = 0; i < 5; i++) {
            int worth = x.worth(1);
            x.year(0);
            Check.due("as it came", x.town(0, 6), worth);
        }
        int worth = x.worth(1);
        Check.due("no YEAR can be", -1, x.year(0));
        Check.due("worth all the same", (505 + 252) / 2, worth);
        x.close();
        Check.due("behind CLOSE", worth, x.worth(1));
    }

    /** 'NONE: fewer than two HARVESTS'. */
    private static void newsOfFew() {
        for (int count = 0; count <= 5; count++) {
            Check.due("news of " + count, count >= 2, Check.farm(harvests(count)).news() >= 0);
        }
        Check.due("news of two of no worth", 0, Check.farm("harvest h grows 1 odds 1; harvest i grows 2 odds 1;").news());
        Check.due("news of nothing", -1, new TaxFarm().news());
    }

    private static int newsByWorth(TaxFarm x, int count) {
        int all = (1 << count) - 1;
        int best = -1;
        int most = -1;
        for (int i = 0; i < count; i++) {
            int change = Math.abs(x.worth(all & ~(1 << i)) - x.worth(all));
            if (change > most) {
                most = change;
                best = i;
            }
        }
        return best;
    }

    /** 'changes the WORTH by all the most, more or less'. */
    private static void newsMoreOrLess() {
        for (int count = 2; count <= 5; count++) {
            for (int run = 0; run < 40; run++) {
                StringBuilder text = new StringBuilder("town a plain means 100; tithe 100;");
                for (int i = 0; i < count; i++) {
                    text.append("harvest h").append((char) ('a' + i)).append(" grows ").append((run * 37 + i * i * 91 + i * run) % 301)
                            .append(" odds ").append(1 + (run + i * 5) % 9).append(';');
                }
                TaxFarm x = Check.farm(text.toString());
                Check.due("news: " + text, newsByWorth(x, count), x.news());
            }
        }
        Check.due("by one less", 1, Check.farm("town a plain means 100; tithe 100; harvest h grows 10 odds 8; harvest i grows 90 odds 1;"
                + "harvest j grows 10 odds 8; harvest k grows 10 odds 8;").news());
        Check.due("by one more", 2, Check.farm("town a plain means 100; tithe 100; harvest h grows 90 odds 8; harvest i grows 90 odds 8;"
                + "harvest j grows 10 odds 1;").news());
    }

    private static void newsOfEqualOnes() {
        Check.due("all alike", 0, Check.farm("town a plain means 100; harvest h grows 50 odds 1; harvest i grows 50 odds 9;"
                + "harvest j grows 50 odds 5;").news());
        Check.due("as much more as less", 0, Check.farm("town a plain means 100; tithe 100; harvest h grows 50 odds 1;"
                + "harvest i grows 70 odds 1;").news());
        Check.due("as much less as more", 0, Check.farm("town a plain means 100; tithe 100; harvest h grows 70 odds 1;"
                + "harvest i grows 50 odds 1;").news());
        Check.due("the first of the two that change it", 1, Check.farm("town a plain means 100; tithe 100; harvest h grows 60 odds 1;"
                + "harvest i grows 30 odds 1; harvest j grows 90 odds 1;").news());
    }

    /** 'it is WORTH so much (0 to 99,999)'. */
    private static void talesAtTheBounds() {
        StringBuilder five = new StringBuilder("harvest h grows 1 odds 1;");
        for (char name = 'm'; name <= 'q'; name++) {
            five.append("company ").append(name).append(" honest coins 1;");
        }
        for (int worth : new int[] {-2, -1, 0, 1, 99998, 99999, 100000, 100001, Integer.MIN_VALUE, Integer.MAX_VALUE}) {
            for (int company : new int[] {-1, 0, 4, 5, Integer.MIN_VALUE, Integer.MAX_VALUE}) {
                TaxFarm x = Check.farm(five.toString());
                boolean can = worth >= 0 && worth <= 99999 && (company == 0 || company == 4);
                Check.due("tale(" + company + ", " + worth + ")", can, x.tale(company, worth));
                Check.due("COMPANIES of which there is a TALE", can ? 1 : 0, x.count(10));
                Check.due("knew", can ? worth == 0 ? 1 : 0 : -1, x.knew(company, 0));
            }
        }
        Check.due("of nothing", false, new TaxFarm().tale(0, 0));
        TaxFarm y = Check.farm(five.toString());
        for (int i = 0; i < 5; i++) {
            Check.due("tale", true, y.tale(4 - i, i));
            Check.due("TALES", i + 1, y.count(10));
        }
    }

    private static void talesInPlaceOfOthers() {
        TaxFarm x = Check.farm(harvests(2));
        x.tale(0, 1);
        Check.due("1", 1, x.knew(0, 1));
        x.tale(0, 2);
        Check.due("2 in its place", 2, x.knew(0, 1));
        Check.due("a refused one", false, x.tale(0, 100000));
        Check.due("2 still", 2, x.knew(0, 1));
        Check.due("a refused one", false, x.tale(0, -1));
        Check.due("2 still", 2, x.knew(0, 1));
        x.tale(0, 50);
        Check.due("no set", 0, x.knew(0, 0));
        Check.due("one COMPANY", 1, x.count(10));
        x.bid(0, 1);
        Check.due("when there is a bid", true, x.tale(0, 1));
        x.award();
        Check.due("when it is held", true, x.tale(0, 2));
        Check.due("2", 2, x.knew(0, 1));
    }

    /** 'NONE: others, no TALE of it, no set (but 0)'. */
    private static void othersOfKnew() {
        TaxFarm x = Check.farm(harvests(3) + "company d honest coins 9;");
        for (int what = 0; what <= 2; what++) {
            Check.due("no TALE", -1, x.knew(0, what));
        }
        x.tale(0, 4);
        for (int what : new int[] {-1, 3, 4, Integer.MIN_VALUE, Integer.MAX_VALUE}) {
            Check.due("knew(0, " + what + ")", -1, x.knew(0, what));
        }
        for (int company : new int[] {-1, 2, 5, Integer.MIN_VALUE, Integer.MAX_VALUE}) {
            for (int what = 0; what <= 2; what++) {
                Check.due("knew(" + company + ", " + what + ")", -1, x.knew(company, what));
            }
        }
        for (int what = 0; what <= 2; what++) {
            Check.due("no TALE of the other", -1, x.knew(1, what));
        }
        x.tale(1, 5);
        Check.due("no set", 0, x.knew(1, 0));
        Check.due("no set", -1, x.knew(1, 1));
        Check.due("no set", -1, x.knew(1, 2));
        TaxFarm y = Check.farm("town a plain means 1; company c honest coins 9;");
        y.tale(0, 0);
        Check.due("without HARVESTS there is no set", 0, y.knew(0, 0));
        Check.due("without HARVESTS", -1, y.knew(0, 1));
        Check.due("without HARVESTS", -1, y.knew(0, 2));
    }

    private static void knewAllSets() {
        for (int count = 1; count <= 5; count++) {
            StringBuilder text = new StringBuilder("town a plain means 0; company c honest coins 9;");
            for (int i = 0; i < count; i++) {
                text.append("harvest h").append((char) ('a' + i)).append(" grows 9 odds ").append(i + 1).append(';');
            }
            TaxFarm x = Check.farm(text.toString());
            x.tale(0, 0);
            Check.due("all sets but none of " + count, (1 << count) - 1, x.knew(0, 0));
            Check.due("in all", count == 1 ? 1 : 0, x.knew(0, 1));
            Check.due("in some", (1 << count) - 1, x.knew(0, 2));
        }
        TaxFarm y = Check.farm(harvests(5));
        for (int worth = 0; worth <= 17; worth++) {
            y.tale(0, worth);
            int found = 0;
            int all = 31;
            int some = 0;
            for (int set = 1; set < 32; set++) {
                if (set / Integer.bitCount(set) == worth) {
                    found++;
                    all &= set;
                    some |= set;
                }
            }
            Check.due("sets worth " + worth, found, y.knew(0, 0));
            Check.due("in all", found == 0 ? -1 : all, y.knew(0, 1));
            Check.due("in some", found == 0 ? -1 : some, y.knew(0, 2));
            Check.due("secret", some, y.secret());
        }
    }

    private static void knewIsNow() {
        TaxFarm x = Check.farm(harvests(2));
        x.tale(0, 2);
        Check.due("i", 2, x.knew(0, 1));
        x.bid(0, 1);
        x.award();
        Check.due("held", 2, x.knew(0, 1));
        x.spare(0);
        Check.due("means are fewer", 0, x.knew(0, 0));
        Check.due("no HARVEST", 0, x.secret());
        x.undo();
        Check.due("undone", 2, x.knew(0, 1));
        x.lend(0, 8);
        Check.due("means are more, but cut", 2, x.knew(0, 1));
    }

    /** 'in some such set of each COMPANY of which there is a TALE'; 'all HARVESTS without TALES'. */
    private static void secrets() {
        for (int count = 0; count <= 5; count++) {
            Check.due("without TALES", (1 << count) - 1, Check.farm(harvests(count)).secret());
        }
        Check.due("of nothing", 0, new TaxFarm().secret());
        TaxFarm x = Check.farm(harvests(3) + "company d honest coins 9; company e honest coins 9;");
        x.tale(1, 2);
        Check.due("by one: 2, 4 and 1", 7, x.secret());
        x.tale(2, 4);
        Check.due("by two", 4, x.secret());
        x.tale(0, 1);
        Check.due("by three", 0, x.secret());
        x.tale(0, 3);
        Check.due("of 2 and 4", 4, x.secret());
        x.tale(2, 77);
        Check.due("of no set", 0, x.secret());
        x.tale(2, 3);
        Check.due("of 2 and 4", 6, x.secret());
    }

    /** 'NONE: no TALE, none parts them'. */
    private static void nextOfNone() {
        Check.due("of nothing", -1, new TaxFarm().next());
        Check.due("no TALE", -1, Check.farm(harvests(5)).next());
        TaxFarm x = Check.farm(harvests(5));
        x.tale(0, 77);
        Check.due("no set", -1, x.next());
        x.tale(0, 16);
        Check.due("one set alone", 1, x.knew(0, 0));
        Check.due("can't be parted", -1, x.next());
        TaxFarm y = Check.farm("company c honest coins 9; harvest h grows 1 odds 1; harvest i grows 2 odds 1;");
        y.tale(0, 0);
        Check.due("without TOWNS", -1, y.next());
        TaxFarm w = Check.farm("town a plain means 1; company c honest coins 9;");
        w.tale(0, 0);
        Check.due("without HARVESTS", -1, w.next());
        TaxFarm v = Check.farm("town a plain means 9; company c honest coins 9; harvest h grows 7 odds 1; harvest i grows 7 odds 1;");
        v.tale(0, 0);
        Check.due("alike ones", -1, v.next());
    }

    private static void nextOfEqualOnes() {
        for (int parts = 0; parts < 4; parts++) {
            StringBuilder text = new StringBuilder("company c honest coins 9; harvest h grows 100 odds 1; harvest i grows 0 odds 1;"
                    + "tithe 1; ");
            for (int i = 0; i < 4; i++) {
                text.append("town t").append((char) ('a' + i)).append(" plain means ").append(i >= parts ? 99 : 98).append(';');
            }
            TaxFarm x = Check.farm(text.toString());
            x.tale(0, 0);
            Check.due("three sets", 3, x.knew(0, 0));
            Check.due("the first that parts them", parts, x.next());
        }
    }

    /** 'by which the greatest number of those sets that are WORTH alike then is the least'. */
    private static void nextPartsMost() {
        String harvests = "company c honest coins 9; harvest h grows 102 odds 2; harvest i grows 92 odds 1; harvest j grows 119 odds 2;"
                + "tithe 40;";
        for (int first = 0; first < 2; first++) {
            // Of four sets that are worth 8 the town of 6 leaves three alike, the town of 17 two.
            TaxFarm x = Check.farm((first == 0 ? "town a plain means 6; town b plain means 17;"
                    : "town b plain means 17; town a plain means 6;") + harvests);
            x.tale(0, 8);
            Check.due("four sets", 4, x.knew(0, 0));
            Check.due("the one that parts most", 1 - first, x.next());
        }
        for (int run = 0; run < 40; run++) {
            StringBuilder text = new StringBuilder("company c honest coins 99; tithe " + (1 + run % 11) + ";");
            for (int i = 0; i < 3; i++) {
                text.append("town t").append((char) ('a' + i)).append(i == 1 ? " port" : " plain").append(" means ")
                        .append(40 + (run * 53 + i * 17) % 70).append(';');
                text.append("harvest h").append((char) ('a' + i)).append(" grows ").append(90 + i * 3 + run % 7).append(" odds 1;");
            }
            TaxFarm y = Check.farm(text.toString());
            y.bid(0, 1);
            y.award();
            int worth = y.worth(1 + run % 7);
            y.tale(0, worth);
            Check.due("next of " + text, bestByHand(y, 3, 3, worth), y.next());
        }
    }

    /** The best TOWN by one coin lent to each by who holds it. */
    private static int bestByHand(TaxFarm x, int towns, int harvests, int worth) {
        boolean[] fits = new boolean[1 << harvests];
        int least = 0;
        for (int set = 1; set < 1 << harvests; set++) {
            fits[set] = x.worth(set) == worth;
            least += fits[set] ? 1 : 0;
        }
        int best = -1;
        for (int town = 0; town < towns; town++) {
            Check.due("lend", true, x.lend(town, 1) > 0);
            int greatest = 0;
            int[] alike = new int[1000];
            for (int set = 1; set < 1 << harvests; set++) {
                if (fits[set]) {
                    greatest = Math.max(greatest, ++alike[x.worth(set)]);
                }
            }
            x.undo();
            if (greatest < least) {
                least = greatest;
                best = town;
            }
        }
        return best;
    }

    /** 'one of whose means more (9,999 at most)': of 9,999 one more is none. */
    private static void nextAtMost() {
        for (int means = 9997; means <= 9999; means++) {
            TaxFarm x = Check.held("town a plain means 999; company c honest coins 9999; harvest h grows 1 odds 1; harvest i grows 0 odds 1;"
                    + "tithe 1;", 0, 1);
            x.lend(0, means - 999);
            x.tale(0, 0);
            Check.due("three sets", 3, x.knew(0, 0));
            Check.due("a tithe of 99 is nothing, of " + means, -1, x.next());
        }
        TaxFarm y = Check.held("town a plain means 999; company c honest coins 9999; harvest h grows 1 odds 1; harvest i grows 0 odds 1;"
                + "tithe 2;", 0, 1);
        y.lend(0, 4999 - 999);
        y.tale(0, 0);
        Check.due("one more of 4,999", 0, y.next());
    }

    /** 'of the first COMPANY of which there is a TALE': by number, not by when it was told. */
    private static void nextOfTheFirst() {
        TaxFarm x = Check.farm("town a plain means 99; company c honest coins 9; company d honest coins 9; company e honest coins 9;"
                + "harvest h grows 100 odds 1; harvest i grows 0 odds 1; tithe 1;");
        x.tale(2, 0);
        Check.due("the last alone", 0, x.next());
        x.tale(1, 5);
        Check.due("one ahead of it, of no set", -1, x.next());
        x.tale(0, 0);
        Check.due("the first one", 0, x.next());
        x.tale(0, 7);
        Check.due("the first one, of no set", -1, x.next());
        x.tale(1, 0);
        Check.due("the first one still", -1, x.next());
    }

    /** Of five COMPANIES: no TALE, then of the last to the first, each of which is to be heard. */
    private static void talesOfAllFive() {
        StringBuilder five = new StringBuilder("town t plain means 99; harvest h grows 100 odds 1; harvest i grows 0 odds 1; tithe 1;");
        for (char name = 'm'; name <= 'q'; name++) {
            five.append("company ").append(name).append(" honest coins 1;");
        }
        TaxFarm x = Check.farm(five.toString());
        Check.due("no TALE", 3, x.secret());
        Check.due("no TALE", -1, x.next());
        for (int i = 4; i >= 0; i--) {
            x.tale(i, 5);
            Check.due("of no set", 0, x.secret());
            Check.due("of no set", -1, x.next());
            x.tale(i, 0);
            Check.due("of all sets", 3, x.secret());
            Check.due("of all sets", 0, x.next());
            Check.due("knew", 3, x.knew(i, 0));
        }
        Check.due("all five", 5, x.count(10));
    }

    private static void nothingIsDone() {
        TaxFarm x = Check.held("town a plain means 99; company c honest coins 9; harvest h grows 100 odds 1; harvest i grows 0 odds 1;", 0, 1);
        x.year(0);
        x.tale(0, 4);
        String before = Look.at(x);
        x.worth(3);
        x.worth(9);
        x.news();
        x.knew(0, 0);
        x.secret();
        x.next();
        x.tale(1, 4);
        x.tale(0, 100000);
        Check.due("nothing is done", true, before.equals(Look.at(x)));
        Check.due("three can be undone", 3, x.count(11));
    }
}
