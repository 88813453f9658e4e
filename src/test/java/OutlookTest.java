/** Promises 21 (worth), 22 (news), 27 (tale), 28 (knew), 29 (secret) and 30 (next). */
public final class OutlookTest {
    private static final String TEXT = "town a plain means 200; town b port means 305; company o honest coins 99;"
            + "company p noble coins 99; harvest g grows 100 odds 2; harvest m grows 50 odds 3; harvest d grows 0 odds 4;";

    public static void main(String[] args) {
        worth();
        worthIsAsTheYear();
        news();
        tales();
        knew();
        secret();
        next();
        allAgainstBruteForce();
        Check.end();
    }

    private static void worth() {
        TaxFarm x = Check.farm(TEXT);
        Check.due("worth(1)", 20 + 31, x.worth(1));
        Check.due("worth(2)", 10 + 16, x.worth(2));
        Check.due("worth(4)", 1, x.worth(4));
        Check.due("worth(3)", (2 * 51 + 3 * 26) / 5, x.worth(3));
        Check.due("worth(7)", (2 * 51 + 3 * 26 + 4) / 9, x.worth(7));
        int[] wrong = {0, 8, -1, 15, Integer.MIN_VALUE, Integer.MAX_VALUE};
        for (int i : wrong) {
            Check.due("worth(" + i + ")", -1, x.worth(i));
        }
        TaxFarm y = Check.farm("harvest h grows 1 odds 1;");
        Check.due("worth of no towns", 0, y.worth(1));
        Check.due("worth(2) of one harvest", -1, y.worth(2));
    }

    private static void worthIsAsTheYear() {
        TaxFarm x = Check.farm(TEXT);
        x.bid(0, 9);
        x.award();
        x.year(0);
        x.take(0, 31);
        for (int h = 0; h < 3; h++) {
            int worth = x.worth(1 << h);
            x.year(h);
            Check.due("worth by harvest " + h, x.town(0, 6) + x.town(1, 6), worth);
            x.undo();
        }
        int held = x.worth(7);
        x.sue();
        Check.due("held or not", held, x.worth(7));
        x.undo();
        for (int i = 0; i < 4; i++) {
            x.year(2);
        }
        Check.due("no year can be", -1, x.year(0));
        Check.due("worth all the same", true, x.worth(1) > 0);
    }

    private static void news() {
        Check.due("news of none", -1, new TaxFarm().news());
        Check.due("news of one", -1, Check.farm("town a plain means 9; harvest h grows 1 odds 1;").news());
        TaxFarm x = Check.farm(TEXT);
        // By all 20; without one of them 11, 17 (106 / 6), 36.
        Check.due("news", 2, x.news());
        TaxFarm y = Check.farm("town a plain means 100; harvest g grows 100 odds 1; harvest h grows 100 odds 1;");
        Check.due("the first of equal ones", 0, y.news());
        // By all 28; without one of them 30, 10.
        TaxFarm z = Check.farm("town a plain means 100; harvest g grows 100 odds 1; harvest h grows 300 odds 9;");
        Check.due("less counts too", 1, z.news());
    }

    private static void tales() {
        TaxFarm x = Check.farm(TEXT);
        int[] wrong = {-1, 2, Integer.MIN_VALUE, Integer.MAX_VALUE};
        for (int i : wrong) {
            Check.due("tale(" + i + ", 1)", false, x.tale(i, 1));
            Check.due("knew(" + i + ", 0)", -1, x.knew(i, 0));
        }
        Check.due("tale(0, -1)", false, x.tale(0, -1));
        Check.due("tale(0, 100000)", false, x.tale(0, 100000));
        Check.due("no tale yet", 0, x.count(10));
        Check.due("knew without a tale", -1, x.knew(0, 0));
        Check.due("tale(0, 99999)", true, x.tale(0, 99999));
        Check.due("tale(0, 0)", true, x.tale(0, 0));
        Check.due("a later one stands in its place", 1, x.count(10));
        Check.due("tale(1, 5)", true, x.tale(1, 5));
        Check.due("two companies", 2, x.count(10));
        Check.due("can't be undone", 0, x.count(11));
    }

    private static void knew() {
        TaxFarm x = Check.farm(TEXT);
        x.tale(1, 26);
        Check.due("one set", 1, x.knew(1, 0));
        Check.due("in all", 2, x.knew(1, 1));
        Check.due("in some", 2, x.knew(1, 2));
        Check.due("knew(1, 3)", -1, x.knew(1, 3));
        Check.due("knew(1, -1)", -1, x.knew(1, -1));
        Check.due("the other one told nothing", -1, x.knew(0, 0));
        x.tale(0, 27);
        Check.due("no set", 0, x.knew(0, 0));
        Check.due("no set", -1, x.knew(0, 1));
        Check.due("no set", -1, x.knew(0, 2));
        x.tale(0, 26);
        x.bid(0, 1);
        x.award();
        x.lend(0, 98);
        Check.due("worth is now", 0, x.knew(0, 0));
        TaxFarm y = Check.farm("town a plain means 100; company o fair coins 1; harvest g grows 100 odds 1;"
                + "harvest h grows 100 odds 1; harvest i grows 300 odds 1;");
        y.tale(0, 10);
        Check.due("three sets", 3, y.knew(0, 0));
        Check.due("in all", 0, y.knew(0, 1));
        Check.due("in some", 3, y.knew(0, 2));
    }

    private static void secret() {
        TaxFarm x = Check.farm(TEXT);
        Check.due("all without tales", 7, x.secret());
        x.tale(0, 36);
        Check.due("in some set of one", 3, x.secret());
        x.tale(1, 26);
        Check.due("in some of each", 2, x.secret());
        x.tale(1, 51);
        Check.due("in some of each", 1, x.secret());
        x.tale(1, 1);
        Check.due("in some of each", 0, x.secret());
        x.tale(0, 77);
        Check.due("no set of one", 0, x.secret());
    }

    private static void next() {
        TaxFarm y = Check.farm("town z plain means 0; town a plain means 99; town b plain means 99;"
                + "company o honest coins 9; company p honest coins 9;"
                + "harvest g grows 100 odds 1; harvest h grows 91 odds 1;");
        Check.due("no tale", -1, y.next());
        Check.due("by g", 18, y.worth(1));
        Check.due("by h", 18, y.worth(2));
        y.tale(1, 18);
        Check.due("the first town that parts them", 1, y.next());
        y.tale(0, 3);
        Check.due("the first company's sets alone", -1, y.next());
        TaxFarm v = Check.farm("town a plain means 99; town b plain means 98; company o honest coins 9;"
                + "harvest g grows 100 odds 1; harvest h grows 95 odds 1;");
        v.tale(0, v.worth(3));
        Check.due("worth alike", v.worth(1), v.worth(2));
        Check.due("one more and no two", 0, v.next());
        TaxFarm u = Check.farm("town a plain means 98; company o honest coins 9; harvest g grows 100 odds 1;"
                + "harvest h grows 95 odds 1;");
        u.tale(0, u.worth(3));
        Check.due("three sets", 3, u.knew(0, 0));
        Check.due("one more is too little", -1, u.next());
        TaxFarm w = Check.farm("town a plain means 50; company o honest coins 9;"
                + "harvest g grows 100 odds 1; harvest h grows 100 odds 1;");
        w.tale(0, 5);
        Check.due("three sets", 3, w.knew(0, 0));
        Check.due("none parts them", -1, w.next());
    }

    /** Next, knew and secret by worth alone: one of the means more is lent by a holder. */
    private static void allAgainstBruteForce() {
        TaxFarm x = Check.farm("town a plain means 97; town b rich means 48; town c port means 33; company o fair coins 90;"
                + "harvest f grows 100 odds 1; harvest g grows 95 odds 2; harvest h grows 90 odds 3; harvest i grows 300 odds 1;"
                + "tithe 13;");
        x.bid(0, 9);
        x.award();
        x.year(1);
        x.take(2, 20);
        for (int told = 1; told < 16; told += 2) {
            int worth = x.worth(told);
            x.tale(0, worth);
            boolean[] fits = new boolean[16];
            int found = 0;
            for (int set = 1; set < 16; set++) {
                fits[set] = x.worth(set) == worth;
                found += fits[set] ? 1 : 0;
            }
            Check.due("sets worth " + worth, found, x.knew(0, 0));
            int best = -1;
            int least = found;
            for (int town = 0; town < 3 && told % 4 == 1; town++) {
                x.lend(town, 1);
                int greatest = greatest(x, fits);
                x.undo();
                if (greatest < least) {
                    least = greatest;
                    best = town;
                }
            }
            if (told % 4 == 1) {
                Check.due("next of sets worth " + worth, best, x.next());
            }
        }
    }

    private static int greatest(TaxFarm x, boolean[] fits) {
        int[] seen = new int[1000];
        int greatest = 0;
        for (int set = 1; set < 16; set++) {
            if (fits[set]) {
                greatest = Math.max(greatest, ++seen[x.worth(set)]);
            }
        }
        return greatest;
    }
}
