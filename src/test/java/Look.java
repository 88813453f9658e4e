import java.util.function.Supplier;
import java.util.function.ToLongFunction;

/** All that can be seen of a farm, so that two of them can be compared, and what a refused call leaves. */
final class Look {
    private Look() {
    }

    /** All that can be seen without changing anything. */
    static String at(TaxFarm x) {
        StringBuilder text = new StringBuilder("counts");
        for (int what = 0; what <= 12; what++) {
            add(text, x.count(what));
        }
        add(text.append(" holder"), x.holder());
        for (int i = 0; i < x.count(0); i++) {
            text.append(" town");
            for (int what = 0; what <= 6; what++) {
                add(text, x.town(i, what));
            }
        }
        for (int i = 0; i < x.count(1); i++) {
            text.append(" company");
            for (int what = 0; what <= 2; what++) {
                add(text, x.company(i, what));
                add(text, x.knew(i, what));
            }
        }
        for (int i = 0; i < x.count(3); i++) {
            text.append(" juror");
            for (int what = 0; what <= 3; what++) {
                add(text, x.juror(i, what));
            }
        }
        text.append(" rest");
        for (int what = 0; what <= 2; what++) {
            add(text, x.judged(what));
            add(text, x.lustra(7, 9, what));
        }
        for (int i = 0; i < x.count(2); i++) {
            add(text, x.worth(1 << i));
        }
        add(text, x.secret());
        add(text, x.next());
        add(text, x.free(0));
        add(text, x.agree(0, 1));
        return text.toString();
    }

    /** All that can be seen, then all that UNDO and MARKS bring back: nothing of it is left. */
    static String through(TaxFarm x) {
        StringBuilder text = new StringBuilder(at(x));
        for (int i = 0; i < 20 && x.undo(); i++) {
            brief(text.append("\n undone"), x);
        }
        for (int mark = 0; mark < 4; mark++) {
            if (x.mark(mark, true)) {
                brief(text.append("\n mark ").append(mark), x);
            }
        }
        return text.toString();
    }

    private static void brief(StringBuilder text, TaxFarm x) {
        for (int what = 4; what <= 11; what++) {
            add(text, x.count(what));
        }
        add(text, x.holder());
        add(text, x.town(0, 2));
        add(text, x.company(0, 1));
        add(text, x.company(0, 2));
        add(text, x.juror(0, 2));
    }

    private static void add(StringBuilder text, long answer) {
        text.append(' ').append(answer);
    }

    /** A refused call answers what is due, and leaves all as on a farm on which it was not called. */
    static void refused(String call, long want, Supplier<TaxFarm> made, ToLongFunction<TaxFarm> called) {
        TaxFarm x = made.get();
        Check.due(call, want, called.applyAsLong(x));
        String left = through(x);
        String due = through(made.get());
        Check.due("all stays behind " + call + "\n" + left + "\ninstead of\n" + due + "\n: it", true, left.equals(due));
    }

    static long bit(boolean answer) {
        return answer ? 1 : 0;
    }
}
