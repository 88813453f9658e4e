import java.util.ArrayDeque;
import java.util.Deque;

/** Promises 19 and 33 at their bounds: the last 16 that can be undone, and MARKS 0 to 3. */
public final class UndoBoundsTest {
    private static final String TEXT = "town a plain means 90; town b rich means 80; company c honest coins 500; company s straw coins 600;"
            + "harvest h grows 100 odds 2; harvest i grows 50 odds 3; juror j holds s price 4; juror k holds s price 5; owes debt + 1;";

    public static void main(String[] args) {
        howMany();
        deedsOfAllKinds();
        undoneAndDoneAgain();
        refusedAtTheBound();
        whatIsNoDeed();
        undoneTillProvince();
        undoIsNotUndone();
        otherMarks();
        emptyMarks();
        marksKeepAll();
        marksLeaveTheTrail();
        backLeavesNothingToUndo();
        marksAreLaidAnew();
        marksKeepTales();
        marksDoNotKeepTheRest();
        marksOfAnElderProvince();
        Check.end();
    }

    /** 'UNDO: all of these, the last 16, one by one'. */
    private static void howMany() {
        for (int done = 0; done <= 40; done++) {
            TaxFarm x = Check.farm(TEXT);
            for (int i = 1; i <= done; i++) {
                Check.due("bid", true, x.bid(0, i));
                Check.due("can be undone behind " + i, Math.min(16, i), x.count(11));
            }
            int most = Math.min(16, done);
            for (int i = 1; i <= most; i++) {
                Check.due("undo " + i + " of " + done, true, x.undo());
                Check.due("the bid ahead of it", done - i, x.company(0, 2));
                Check.due("can be undone", most - i, x.count(11));
            }
            for (int i = 0; i < 3; i++) {
                Check.due("nothing can be", false, x.undo());
                Check.due("it stays", done - most, x.company(0, 2));
                Check.due("nothing is left", 0, x.count(11));
            }
        }
    }

    /** A deed by its number: whether it could be. */
    private static boolean act(TaxFarm x, int deed) {
        switch (deed % 13) {
            case 0: return x.bid(0, 7 + deed % 5);
            case 1: return x.bid(1, deed % 2 == 0 ? 99 : 5);
            case 2: return x.award() != -2;
            case 3: return x.year(0) != -1;
            case 4: return x.take(0, 9 + deed % 7) != -1;
            case 5: return x.lend(1, 3) != -1;
            case 6: return x.call(1, 2) != -1;
            case 7: return x.spare(deed % 2) != -1;
            case 8: return x.bribe(deed % 2);
            case 9: return x.sue() != -1;
            case 10: return x.year(1) != -1;
            case 11: return x.take(1, 5) != -1;
            default: return x.close();
        }
    }

    /** All that UNDO brings back. */
    private static String seen(TaxFarm x) {
        StringBuilder text = new StringBuilder();
        for (int i = 0; i < 2; i++) {
            for (int what = 1; what <= 6; what++) {
                text.append(x.town(i, what)).append(' ');
            }
            text.append(x.company(i, 1)).append(' ').append(x.company(i, 2)).append(' ').append(x.juror(i, 2)).append(' ');
        }
        for (int what = 4; what <= 8; what++) {
            text.append(x.count(what)).append(' ');
        }
        return text.append(x.holder()).toString();
    }

    /** A state that was not looked at: an object is used for 512 calls at most. */
    private static final String UNSEEN = "";

    /** Deeds of all kinds, many of them refused, and undone in between, against a stack of what was seen. */
    private static void deedsOfAllKinds() {
        for (int run = 0; run < 1000; run++) {
            TaxFarm x = Check.farm(TEXT);
            Deque<String> kept = new ArrayDeque<>();
            for (int i = 0; i < run % 15; i++) {
                x.bid(0, 1);
                kept.addLast(UNSEEN);
            }
            long g = run;
            for (int i = 0; i < 9; i++) {
                g = (g * 1103515245L + 12345L) % (1L << 31);
                int drawn = (int) (g / 65536);
                if (drawn % 5 == 0) {
                    Check.due("undo", !kept.isEmpty(), x.undo());
                    String before = kept.isEmpty() ? UNSEEN : kept.removeLast();
                    Check.due("as ahead of it", true, before.equals(UNSEEN) || before.equals(seen(x)));
                } else {
                    String before = seen(x);
                    if (act(x, drawn / 5)) {
                        kept.addLast(before);
                    } else {
                        Check.due("refused, it stays", true, before.equals(seen(x)));
                    }
                    if (kept.size() > 16) {
                        kept.removeFirst();
                    }
                }
                Check.due("can be undone", kept.size(), x.count(11));
            }
        }
    }

    private static void undoneAndDoneAgain() {
        for (int back = 1; back <= 16; back++) {
            TaxFarm x = Check.farm(TEXT);
            for (int i = 1; i <= 20; i++) {
                x.bid(0, i);
            }
            for (int i = 0; i < back; i++) {
                x.undo();
            }
            for (int i = 0; i < back; i++) {
                x.bid(0, 100 + i);
            }
            Check.due("16 again", 16, x.count(11));
            for (int i = back - 2; i >= 0; i--) {
                x.undo();
                Check.due("what was done again", 100 + i, x.company(0, 2));
            }
            for (int i = 20 - back; i >= 4; i--) {
                Check.due("undo", true, x.undo());
                Check.due("what was done first", i, x.company(0, 2));
            }
            Check.due("nothing can be", false, x.undo());
        }
    }

    /** A refused call takes none of the 16. */
    private static void refusedAtTheBound() {
        for (int done = 14; done <= 18; done++) {
            TaxFarm x = Check.farm(TEXT);
            for (int i = 1; i <= done; i++) {
                x.bid(0, i);
            }
            for (int i = 0; i < 20; i++) {
                x.bid(0, 501);
                x.bid(2, 1);
                x.year(0);
                x.take(0, 1);
                x.lend(0, 1);
                x.call(0, 1);
                x.spare(0);
                x.bribe(0);
                x.sue();
                x.close();
            }
            Check.due("none is taken", Math.min(16, done), x.count(11));
            for (int i = 1; i <= Math.min(16, done); i++) {
                Check.due("undo", true, x.undo());
                Check.due("the bid ahead of it", done - i, x.company(0, 2));
            }
            Check.due("nothing can be", false, x.undo());
        }
    }

    /** What is asked, told, fed or marked is none of these. */
    private static void whatIsNoDeed() {
        TaxFarm x = Check.farm(TEXT);
        x.bid(0, 9);
        x.award();
        x.year(0);
        x.take(0, 50);
        Check.feed(x, "x");
        x.past();
        Check.past(x, "bid c 5; award;");
        x.judged(0);
        x.tale(0, 5);
        x.mark(0, false);
        x.mark(1, true);
        x.lustra(5, 20, 1);
        x.gather(0, 0, 5, 0);
        x.rate(0, 0, 20);
        Look.at(x);
        Check.due("four can be undone", 4, x.count(11));
        Check.due("undo", true, x.undo());
        Check.due("the take", 0, x.town(0, 4));
        Check.due("the TALE stays", 1, x.count(10));
        Check.due("the PAST stays", 2, x.count(9));
        Check.feed(x, "abc");
        Check.due("undo", true, x.undo());
        Check.due("the TAPE stays", 3, x.count(12));
        Check.due("the YEAR", 0, x.count(4));
    }

    private static void undoneTillProvince() {
        TaxFarm x = Check.farm(TEXT);
        x.bid(0, 9);
        Check.due("a FAULT", 1, Check.province(x, "?"));
        Check.due("it can be undone", 1, x.count(11));
        Check.due("told anew", 0, Check.province(x, TEXT));
        Check.due("nothing can be undone", 0, x.count(11));
        Check.due("undo", false, x.undo());
        for (int i = 0; i < 20; i++) {
            x.bid(0, i);
        }
        Check.due("nothing told", 0, x.province());
        Check.due("undo", false, x.undo());
        Check.due("of a new object", false, new TaxFarm().undo());
    }

    /** UNDO is none of what can be undone. */
    private static void undoIsNotUndone() {
        TaxFarm x = Check.farm(TEXT);
        x.bid(0, 1);
        x.bid(0, 2);
        x.undo();
        Check.due("one is left", 1, x.count(11));
        x.undo();
        Check.due("not the undone one", 0, x.company(0, 2));
        Check.due("nothing is left", false, x.undo());
    }

    private static TaxFarm many(int steps) {
        TaxFarm x = Check.farm(TEXT);
        for (int i = 0; i < steps; i++) {
            act(x, i);
        }
        return x;
    }

    /** 'false: none such'. */
    private static void otherMarks() {
        for (int mark : new int[] {-1, 4, 5, 31, 32, 33, Integer.MIN_VALUE, Integer.MAX_VALUE}) {
            for (int steps : new int[] {0, 1, 6}) {
                Look.refused("mark(" + mark + ", false)", 0, () -> many(steps), x -> Look.bit(x.mark(mark, false)));
                Look.refused("mark(" + mark + ", true)", 0, () -> many(steps), x -> Look.bit(x.mark(mark, true)));
            }
        }
        for (int mark = 0; mark < 4; mark++) {
            TaxFarm x = many(5);
            Check.due("mark(" + mark + ", false)", true, x.mark(mark, false));
            Check.due("mark(" + mark + ", true)", true, x.mark(mark, true));
        }
    }

    /** 'nothing is on it (back)': but for the ones that were laid. */
    private static void emptyMarks() {
        for (int laid = 0; laid < 16; laid++) {
            for (int mark = 0; mark < 4; mark++) {
                TaxFarm x = many(4);
                for (int i = 0; i < 4; i++) {
                    if ((laid >> i & 1) != 0) {
                        x.mark(i, false);
                    }
                }
                boolean there = (laid >> mark & 1) != 0;
                Check.due("back to " + mark + " of " + laid, there, x.mark(mark, true));
                Check.due("what can be undone", there ? 0 : 4, x.count(11));
            }
        }
        Look.refused("back to nothing", 0, () -> many(9), x -> Look.bit(x.mark(0, true)));
    }

    private static void marksKeepAll() {
        for (int steps = 0; steps <= 60; steps += 3) {
            TaxFarm x = many(steps);
            String laid = seen(x);
            int mark = steps % 4;
            x.mark(mark, false);
            for (int i = 0; i < 25; i++) {
                act(x, steps + i);
            }
            Check.due("back", true, x.mark(mark, true));
            Check.due("as it was behind " + steps, true, laid.equals(seen(x)));
            for (int i = 0; i < 25; i++) {
                act(x, steps + 7 * i);
            }
            Check.due("back again", true, x.mark(mark, true));
            Check.due("it stays as laid", true, laid.equals(seen(x)));
        }
    }

    private static void marksLeaveTheTrail() {
        TaxFarm x = Check.farm(TEXT);
        for (int i = 1; i <= 20; i++) {
            x.bid(0, i);
            x.mark(i % 4, false);
        }
        Check.due("16 can be undone", 16, x.count(11));
        for (int i = 19; i >= 4; i--) {
            x.undo();
            Check.due("the bid", i, x.company(0, 2));
        }
        for (int mark = 0; mark < 4; mark++) {
            Check.due("undone or not, a MARK stays", true, x.mark(mark, true));
            Check.due("as it was laid", mark == 0 ? 20 : 16 + mark, x.company(0, 2));
        }
    }

    /** '(nothing can be undone when one is gone back to)'. */
    private static void backLeavesNothingToUndo() {
        for (int done = 0; done <= 17; done++) {
            TaxFarm x = Check.farm(TEXT);
            x.mark(3, false);
            for (int i = 1; i <= done; i++) {
                x.bid(0, i);
            }
            Check.due("back", true, x.mark(3, true));
            Check.due("nothing can be undone", 0, x.count(11));
            Check.due("undo", false, x.undo());
            Check.due("the bid", 0, x.company(0, 2));
            x.bid(0, 77);
            Check.due("one can be undone", 1, x.count(11));
            Check.due("undo", true, x.undo());
            Check.due("undo", false, x.undo());
            Check.due("the bid", 0, x.company(0, 2));
        }
    }

    private static void marksAreLaidAnew() {
        TaxFarm x = Check.farm(TEXT);
        for (int i = 1; i <= 9; i++) {
            x.bid(0, i);
            Check.due("laid", true, x.mark(2, false));
        }
        x.bid(0, 50);
        x.mark(2, true);
        Check.due("as it was laid last", 9, x.company(0, 2));
        x.mark(1, false);
        x.bid(0, 60);
        x.mark(2, false);
        x.mark(1, true);
        Check.due("the other one", 9, x.company(0, 2));
        x.mark(2, true);
        Check.due("this one", 60, x.company(0, 2));
    }

    private static void marksKeepTales() {
        TaxFarm x = Check.farm(TEXT);
        x.mark(0, false);
        x.tale(0, x.worth(1));
        x.mark(1, false);
        x.tale(0, x.worth(2));
        x.tale(1, 99999);
        x.mark(2, false);
        int[] tales = {0, 1, 2};
        int[] sets = {-1, 1, 2};
        for (int turn = 0; turn < 2; turn++) {
            for (int mark = 2; mark >= 0; mark--) {
                Check.due("back", true, x.mark(mark, true));
                Check.due("TALES of " + mark, tales[mark], x.count(10));
                Check.due("what was known of it", sets[mark], x.knew(0, 1));
                Check.due("what the other one knew", mark == 2 ? 0 : -1, x.knew(1, 0));
            }
        }
    }

    /** The PAST, the TAPE and other MARKS are not on a MARK. */
    private static void marksDoNotKeepTheRest() {
        TaxFarm x = Check.farm(TEXT);
        x.mark(0, false);
        Check.past(x, "award; sue;");
        Check.feed(x, "abc");
        x.bid(0, 5);
        x.mark(1, false);
        Check.due("back", true, x.mark(0, true));
        Check.due("the PAST", 2, x.count(9));
        Check.due("the TAPE", 3, x.count(12));
        Check.due("another MARK", true, x.mark(1, true));
        Check.due("the bid", 5, x.company(0, 2));
    }

    /** 'no MARK is there' in a new PROVINCE, and all of them by a FAULT. */
    private static void marksOfAnElderProvince() {
        for (String text : new String[] {TEXT, "", "town z port means 1;", "?", "town a plain means 1000;"}) {
            TaxFarm x = Check.farm(TEXT);
            for (int mark = 0; mark < 4; mark++) {
                x.mark(mark, false);
            }
            boolean good = Check.province(x, text) == 0;
            for (int mark = 0; mark < 4; mark++) {
                Check.due("back to " + mark + " behind " + text, !good, x.mark(mark, true));
            }
            Check.due("laid again", true, x.mark(0, false));
            Check.due("back", true, x.mark(0, true));
            Check.due("the others", !good, x.mark(1, true));
        }
    }
}
