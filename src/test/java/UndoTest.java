/** Promises 19 (undo) and 33 (mark). */
public final class UndoTest {
    private static final String TEXT = "town a plain means 100; town b rich means 90; company o honest coins 99;"
            + "company p noble coins 99; harvest h grows 100 odds 1; juror j holds p price 5; bar 1;";

    public static void main(String[] args) {
        oneByOne();
        refused();
        lastSixteen();
        marks();
        tales();
        Check.end();
    }

    /** All that can be seen of a farm but what can be undone. */
    private static String seen(TaxFarm x) {
        StringBuilder text = new StringBuilder();
        for (int i = 0; i < 2; i++) {
            for (int what = 0; what < 7; what++) {
                text.append(x.town(i, what)).append(' ');
            }
            for (int what = 0; what < 3; what++) {
                text.append(x.company(i, what)).append(' ');
            }
        }
        text.append(x.juror(0, 2)).append(' ').append(x.juror(0, 3)).append(' ').append(x.holder());
        for (int what = 4; what <= 8; what++) {
            text.append(' ').append(x.count(what));
        }
        return text.toString();
    }

    private static boolean act(TaxFarm x, int step) {
        switch (step) {
            case 0: return x.bid(0, 20);
            case 1: return x.award() == 0;
            case 2: return x.year(0) > 0;
            case 3: return x.take(0, 50) > 0;
            case 4: return x.lend(1, 7) > 0;
            case 5: return x.call(1, 3) > 0;
            case 6: return x.spare(1) > 0;
            case 7: return x.bribe(0);
            case 8: return x.sue() == 1;
            case 9:
            case 10:
            case 11:
            case 12: return x.year(0) > 0;
            default: return x.close();
        }
    }

    private static final int STEPS = 14;

    /** What is seen behind so many steps, of an object of its own: one is used for 512 calls at most. */
    private static String seenBehind(int steps) {
        TaxFarm x = Check.farm(TEXT);
        for (int i = 0; i < steps; i++) {
            act(x, i);
        }
        return seen(x);
    }

    private static void oneByOne() {
        TaxFarm x = Check.farm(TEXT);
        for (int i = 0; i < STEPS; i++) {
            Check.due("step " + i, true, act(x, i));
            Check.due("changes something: " + i, false, seenBehind(i).equals(seenBehind(i + 1)));
            Check.due("can be undone", i + 1, x.count(11));
        }
        for (int i = STEPS - 1; i >= 0; i--) {
            Check.due("undo", true, x.undo());
            Check.due("as before step " + i, true, seenBehind(i).equals(seen(x)));
            Check.due("can be undone", i, x.count(11));
        }
        Check.due("nothing left", false, x.undo());
        for (int i = 0; i < STEPS; i++) {
            Check.due("again step " + i, true, act(x, i));
        }
    }

    private static void refused() {
        TaxFarm x = Check.farm(TEXT);
        x.bid(0, 100);
        x.award();
        refusedByAll(x, 0);
        x.bid(0, 99);
        x.award();
        x.bribe(0);
        refusedByAll(x, 2);
        x.undo();
        x.undo();
        x.bid(0, 0);
        x.bid(0, 0);
        Check.due("what changes nothing can", 2, x.count(11));
    }

    private static void refusedByAll(TaxFarm x, int done) {
        x.year(1);
        x.take(0, 1);
        x.lend(0, 1);
        x.call(0, 1);
        x.spare(2);
        x.bribe(0);
        x.close();
        if (x.holder() < 0) {
            x.sue();
        } else {
            x.bid(0, 0);
            x.award();
        }
        Check.due("refused ones can't be undone", done, x.count(11));
    }

    private static void lastSixteen() {
        TaxFarm x = Check.farm(TEXT);
        for (int i = 1; i <= 20; i++) {
            x.bid(0, i);
        }
        Check.due("16 at most", 16, x.count(11));
        Check.due("refused with 16 kept", false, x.bid(0, 9999));
        for (int i = 19; i >= 4; i--) {
            Check.due("undo", true, x.undo());
            Check.due("bid", i, x.company(0, 2));
        }
        Check.due("a 17th", false, x.undo());
        Check.due("bid stays", 4, x.company(0, 2));
        x.bid(0, 50);
        Check.due("undo goes on", true, x.undo());
        Check.due("bid", 4, x.company(0, 2));
    }

    private static void marks() {
        TaxFarm x = Check.farm(TEXT);
        int[] wrong = {-1, 4, Integer.MIN_VALUE, Integer.MAX_VALUE};
        for (int i : wrong) {
            Check.due("mark(" + i + ", false)", false, x.mark(i, false));
            Check.due("mark(" + i + ", true)", false, x.mark(i, true));
        }
        for (int i = 0; i < 4; i++) {
            Check.due("nothing on " + i, false, x.mark(i, true));
        }
        String[] laid = new String[4];
        for (int i = 0; i < STEPS; i++) {
            if (i % 4 == 2) {
                laid[i / 4] = seen(x);
                Check.due("mark", true, x.mark(i / 4, false));
                Check.due("undo stays", i, x.count(11));
            }
            act(x, i);
        }
        for (int i = 2; i >= 0; i--) {
            Check.due("back to " + i, true, x.mark(i, true));
            Check.due("as it was at " + i + ": " + seen(x), true, laid[i].equals(seen(x)));
            Check.due("nothing can be undone", 0, x.count(11));
            Check.due("undo", false, x.undo());
        }
        Check.due("a mark stays", true, x.mark(2, true));
        Check.due("as it was at 2", true, laid[2].equals(seen(x)));
        x.year(0);
        Check.due("an elder mark is laid anew", true, x.mark(0, false));
        String anew = seen(x);
        x.mark(2, true);
        x.mark(0, true);
        Check.due("as it was then", true, anew.equals(seen(x)));
    }

    private static void tales() {
        TaxFarm x = Check.farm(TEXT);
        x.bid(0, 5);
        x.tale(0, 7);
        x.undo();
        Check.due("undo leaves tales", 1, x.count(10));
        x.mark(3, false);
        x.tale(0, 19);
        x.tale(1, 5);
        x.mark(2, false);
        Check.due("back", true, x.mark(3, true));
        Check.due("tales as laid", 1, x.count(10));
        Check.due("told 7", 0, x.knew(0, 0));
        x.mark(2, true);
        Check.due("two tales", 2, x.count(10));
        Check.due("told 19", 1, x.knew(0, 0));
        Check.past(x, "sue;");
        x.mark(3, true);
        Check.due("a past is no part of a mark", 1, x.count(9));
    }
}
