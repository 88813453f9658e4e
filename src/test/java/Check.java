import java.util.NoSuchElementException;

/** What the tests share: counting wrong answers, and feeding a text to a TaxFarm. */
final class Check {
    /** Stands for a call that throws NoSuchElementException. */
    static final long THROWS = Long.MIN_VALUE;

    /** The words that are no NAMES. */
    static final String[] RESERVED = ("town means company coins harvest grows odds juror holds price tithe bar alone owes bid award "
            + "year take lend call spare bribe sue close plain rich proud port honest straw noble fair not and or").split(" ");

    private static int asked = 0;
    private static int wrong = 0;

    private Check() {
    }

    static void due(String call, long want, long got) {
        asked++;
        if (got != want) {
            wrong++;
            System.out.println(call + " answered " + got + ", due is " + want);
        }
    }

    static void due(String call, boolean want, boolean got) {
        due(call, want ? 1 : 0, got ? 1 : 0);
    }

    static long rests(TaxFarm farm, int one, int other, int what) {
        try {
            return farm.rests(one, other, what);
        } catch (NoSuchElementException e) {
            return THROWS;
        }
    }

    /** Feeds a text of known signs, 24 at a time: how many signs are on the tape then. */
    static int feed(TaxFarm farm, String text) {
        int signs = farm.count(12);
        for (int at = 0; at < text.length(); at += 24) {
            signs = farm.feed(bytes(text, at), bytes(text, at + 8), bytes(text, at + 16));
        }
        return signs;
    }

    private static long bytes(String text, int from) {
        long bytes = 0;
        for (int i = from; i < from + 8; i++) {
            bytes = bytes << 8 | (i < text.length() ? text.charAt(i) : 0);
        }
        return bytes;
    }

    static int province(TaxFarm farm, String text) {
        feed(farm, text);
        return farm.province();
    }

    static int past(TaxFarm farm, String text) {
        feed(farm, text);
        return farm.past();
    }

    static TaxFarm farm(String text) {
        TaxFarm farm = new TaxFarm();
        due("province: " + text, 0, province(farm, text));
        return farm;
    }

    /** A farm whose province a company holds. */
    static TaxFarm held(String text, int company, int bid) {
        TaxFarm farm = farm(text);
        due("bid", true, farm.bid(company, bid));
        due("award", company, farm.award());
        return farm;
    }

    static void end() {
        System.out.println(asked + " answers, " + wrong + " not as due");
        if (wrong != 0) {
            System.exit(1);
        }
    }
}
