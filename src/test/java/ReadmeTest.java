/** The calls that README.md shows answer what it says. */
public final class ReadmeTest {
    public static void main(String[] args) {
        TaxFarm farm = new TaxFarm();
        feed(farm, "town arx plain means 200; company one honest coins 500; company two fair coins 90;"
                + "harvest good grows 60 odds 2; harvest bad grows 20 odds 1;"
                + "juror ax holds two price 30; tithe 10; bar 5;");
        Check.due("province", 0, farm.province());
        Check.due("worth", 9, farm.worth(3));
        Check.due("bid", true, farm.bid(0, 50));
        Check.due("award", 0, farm.award());
        Check.due("year", 120, farm.year(0));
        Check.due("take", 8, farm.take(0, 20));
        Check.due("town", 196, farm.town(0, 1));
        Check.due("free", 30, farm.free(0));
        Check.due("sue", 0, farm.sue());
        Check.due("undo", true, farm.undo());
        Check.due("bribe", true, farm.bribe(0));
        Check.due("sue", 1, farm.sue());
        feed(farm, "bid two 91; bid one 9; award; year bad;");
        Check.due("past", 0, farm.past());
        Check.due("judged", 0, farm.judged(0));
        Check.due("judged", 9, farm.judged(1));
        Check.end();
    }

    private static void feed(TaxFarm farm, String text) {
        for (int at = 0; at < text.length(); at += 24) {
            farm.feed(eight(text, at), eight(text, at + 8), eight(text, at + 16));
        }
    }

    private static long eight(String text, int from) {
        long signs = 0;
        for (int i = from; i < from + 8; i++) {
            signs = signs << 8 | (i < text.length() ? text.charAt(i) : 0);
        }
        return signs;
    }
}
