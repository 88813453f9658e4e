/** What an E is worth, seen by what a spared town gives and by what is owed. */
public final class LawTest {
    public static void main(String[] args) {
        values();
        facts();
        owed();
        Check.end();
    }

    /** A town of 999 means and a debt of 7, with a crop of 499. */
    private static TaxFarm farm(String laws) {
        TaxFarm x = Check.farm("town a plain means 992; company o honest coins 99; harvest h grows 50 odds 1;" + laws);
        x.bid(0, 1);
        x.award();
        x.lend(0, 7);
        x.year(0);
        return x;
    }

    private static void gives(int want, String law) {
        Check.due("alone " + law, want, farm("alone " + law + ";").spare(0));
    }

    private static void values() {
        gives(7, "1 + 2 * 3");
        gives(9, "( 1 + 2 ) * 3");
        gives(5, "10 - 3 - 2");
        gives(9, "10 - ( 3 - 2 )");
        gives(0, "3 - 10");
        gives(7, "3 - 10 + 14");
        gives(1, "2 < 3");
        gives(0, "3 < 3");
        gives(1, "3 = 3");
        gives(0, "3 = 2");
        gives(1, "1 + 1 < 1 * 3");
        gives(1, "5 and 7");
        gives(1, "1 and 1");
        gives(1, "1 or 0");
        gives(0, "0 and 1");
        gives(0, "5 and 0");
        gives(1, "0 or 7");
        gives(0, "0 or 0");
        gives(1, "1 or 1 and 0 or 1");
        gives(0, "1 or 1 and 0");
        gives(1, "0 and 0 or 1");
        gives(0, "1 or ( 1 and 0 ) and 0");
        gives(1, "not 0");
        gives(0, "not 5");
        gives(1, "not not 5");
        gives(4, "not 0 * 4");
        gives(3, "not 1 + 3");
        gives(0, "not ( 1 + 3 )");
        gives(1, "0 - 1 and 1");
        gives(1, "0 - 1 < 0");
        gives(999, "9999");
        gives(5, "9999 * 9999 * 9999 * 0 + 5");
        gives(0, "9999 * 9999 * 22");
        gives(1, "9999 * 9999 * 22 < 0");
        gives(6, "( ( ( ( 1 + 1 ) + 1 ) + 1 ) + 1 ) + 1");
        gives(6, "1 + ( 1 + ( 1 + ( 1 + ( 1 + 1 ) ) ) )");
        gives(33, "0+30+3*(0 or 1<1+2*(0 or 1<1+2*(0 or 1<1+2*(0 or 1<1+2*3))))");
        gives(30, "0+30+3*(0 or 1<1+2*(0 or 1<1+2*(0 or 1<1+2*(0 or 9<1+2*3))))");
        gives(48, "2*(3+4*(1+1*(1+1*(2-1)))-0*2)+18");
    }

    private static void facts() {
        gives(499, "crop");
        gives(7, "debt");
        gives(999, "wealth");
        gives(1, "wealth = 999");
        gives(506, "crop + debt");
        TaxFarm x = farm("alone crop;");
        x.take(0, 9);
        Check.due("what it has of its crop now", 490, x.spare(0));
    }

    private static void owed() {
        int[] want = {7, 14, 0, 9999, 999, 0, 1};
        String[] laws = {"debt", "debt * 2", "debt - 8", "9999 + debt", "wealth", "crop", "crop = 0"};
        for (int i = 0; i < laws.length; i++) {
            Check.due("owes " + laws[i], want[i], farm("owes " + laws[i] + ";").town(0, 3));
        }
        TaxFarm x = farm("owes debt + wealth;");
        x.year(0);
        Check.due("by the means with half of the crop", 7 + 999 + 999 + 249, x.town(0, 3));
    }
}
