/** Promises 1, 8 and 34 at their bounds: a new object, who holds it, and each count at its least and its most. */
public final class CountBoundsTest {
    private static final int[] EXTREME = {Integer.MIN_VALUE, -1000, -2, -1, 13, 14, 1000, Integer.MAX_VALUE};

    public static void main(String[] args) {
        others();
        newObject();
        newObjectIsAsOfNothingTold();
        howManyThereAre();
        years();
        greedOfAll();
        whatTheStateHas();
        meansOfAll();
        lines();
        tales();
        undone();
        signs();
        holders();
        objectsAreApart();
        Check.end();
    }

    /** 'NONE for another what': 0 to 12 are none of them. */
    private static void others() {
        TaxFarm x = Check.held("town a plain means 9; company c honest coins 9; harvest h grows 9 odds 9; juror j holds c price 9;", 0, 9);
        for (int what : EXTREME) {
            Check.due("count(" + what + ")", -1, x.count(what));
            Check.due("of nothing: count(" + what + ")", -1, new TaxFarm().count(what));
        }
        for (int what = 0; what <= 12; what++) {
            Check.due("count(" + what + ")", true, x.count(what) >= 0);
        }
    }

    /** Every call on a new object, one by one, answers as if nothing is there, and leaves it so. */
    private static void newObject() {
        for (int i = -1; i <= 1; i++) {
            int one = i;
            Look.refused("town", -1, TaxFarm::new, x -> x.town(one, 0));
            Look.refused("company", -1, TaxFarm::new, x -> x.company(one, 0));
            Look.refused("juror", -2, TaxFarm::new, x -> x.juror(one, 0));
            Look.refused("bid", 0, TaxFarm::new, x -> Look.bit(x.bid(one, 0)));
            Look.refused("year", -1, TaxFarm::new, x -> x.year(one));
            Look.refused("take", -1, TaxFarm::new, x -> x.take(one, 1));
            Look.refused("lend", -1, TaxFarm::new, x -> x.lend(one, 1));
            Look.refused("call", -1, TaxFarm::new, x -> x.call(one, 1));
            Look.refused("spare", -1, TaxFarm::new, x -> x.spare(one));
            Look.refused("bribe", 0, TaxFarm::new, x -> Look.bit(x.bribe(one)));
            Look.refused("tale", 0, TaxFarm::new, x -> Look.bit(x.tale(one, 0)));
            Look.refused("knew", -1, TaxFarm::new, x -> x.knew(one, 0));
            Look.refused("worth", -1, TaxFarm::new, x -> x.worth(one));
            Look.refused("free", -1, TaxFarm::new, x -> x.free(one));
            Look.refused("agree", -1, TaxFarm::new, x -> x.agree(one, one + 1));
            Look.refused("gather", -1, TaxFarm::new, x -> x.gather(one, 0, 1, 0));
            Look.refused("rate", -1, TaxFarm::new, x -> x.rate(one, 0, 1));
            Look.refused("mark", 0, TaxFarm::new, x -> Look.bit(x.mark(one, true)));
        }
        Look.refused("award", -2, TaxFarm::new, TaxFarm::award);
        Look.refused("sue", -1, TaxFarm::new, TaxFarm::sue);
        Look.refused("close", 0, TaxFarm::new, x -> Look.bit(x.close()));
        Look.refused("undo", 0, TaxFarm::new, x -> Look.bit(x.undo()));
        Look.refused("holder", -1, TaxFarm::new, TaxFarm::holder);
        Look.refused("news", -1, TaxFarm::new, TaxFarm::news);
        Look.refused("secret", 0, TaxFarm::new, TaxFarm::secret);
        Look.refused("next", -1, TaxFarm::new, TaxFarm::next);
        Look.refused("judged(0)", -1, TaxFarm::new, x -> x.judged(0));
        Look.refused("judged(1)", 0, TaxFarm::new, x -> x.judged(1));
        Look.refused("judged(2)", 0, TaxFarm::new, x -> x.judged(2));
        Look.refused("judged(3)", -2, TaxFarm::new, x -> x.judged(3));
        Look.refused("lustra", 0, TaxFarm::new, x -> x.lustra(0, 1, 0));
        Look.refused("rests", 2, TaxFarm::new, x -> Check.rests(x, 0, 0, -1));
        Look.refused("feed", 0, TaxFarm::new, x -> x.feed(0, 0, 0));
        Look.refused("past", 0, TaxFarm::new, TaxFarm::past);
        Look.refused("province", 0, TaxFarm::new, TaxFarm::province);
    }

    private static void newObjectIsAsOfNothingTold() {
        TaxFarm x = new TaxFarm();
        x.province();
        Check.due("as of nothing told", true, Look.through(x).equals(Look.through(new TaxFarm())));
        for (int what = 0; what <= 12; what++) {
            Check.due("count(" + what + ")", 0, new TaxFarm().count(what));
        }
    }

    private static void howManyThereAre() {
        for (int count = 0; count <= 6; count++) {
            StringBuilder text = new StringBuilder();
            int few = Math.min(5, count);
            for (int i = 0; i < count; i++) {
                text.append("town t").append((char) ('a' + i)).append(" plain means 1;");
            }
            for (int i = 0; i < few; i++) {
                char letter = (char) ('a' + i);
                text.append("company c").append(letter).append(" fair coins 1;harvest h").append(letter).append(" grows 1 odds 1;")
                        .append("juror j").append(letter).append(" holds ca price 1;");
            }
            TaxFarm x = Check.farm(text.toString());
            Check.due("TOWNS", count, x.count(0));
            Check.due("COMPANIES", few, x.count(1));
            Check.due("HARVESTS", few, x.count(2));
            Check.due("JURORS", few, x.count(3));
            Check.due("means of all", count, x.count(8));
        }
    }

    /** 'YEARS in all', 'YEARS the holder has had' through a lost suit, an AWARD and UNDO. */
    private static void years() {
        TaxFarm x = Check.held("town a plain means 99; company c honest coins 99; company d honest coins 99; harvest h grows 100 odds 1;"
                + "tithe 0; juror j holds d price 1;", 0, 1);
        x.year(0);
        x.year(0);
        Check.due("in all", 2, x.count(4));
        Check.due("had", 2, x.count(5));
        Check.due("undo", true, x.undo());
        Check.due("in all", 1, x.count(4));
        Check.due("had", 1, x.count(5));
        x.take(0, 5);
        Check.due("lost", 0, x.sue());
        Check.due("in all", 1, x.count(4));
        x.bid(1, 1);
        x.award();
        Check.due("in all", 1, x.count(4));
        Check.due("had", 0, x.count(5));
        for (int i = 1; i <= 5; i++) {
            x.year(0);
            Check.due("in all", 1 + i, x.count(4));
            Check.due("had", i, x.count(5));
        }
        x.year(0);
        Check.due("in all", 6, x.count(4));
        x.close();
        Check.due("in all", 6, x.count(4));
    }

    private static void greedOfAll() {
        TaxFarm x = Check.held("town a plain means 50; town b proud means 50; company c honest coins 99; harvest h grows 100 odds 1;", 0, 1);
        Check.due("at first", 0, x.count(6));
        x.year(0);
        x.take(0, 5);
        Check.due("by its tithe none", 0, x.count(6));
        x.take(0, 1);
        Check.due("one", 1, x.count(6));
        x.take(1, 8);
        Check.due("of both", 4, x.count(6));
        x.year(0);
        Check.due("a YEAR leaves it", 4, x.count(6));
        x.undo();
        x.undo();
        Check.due("undone", 1, x.count(6));
        x.sue();
        Check.due("sued", 0, x.count(6));
    }

    private static void whatTheStateHas() {
        TaxFarm x = Check.held("town a plain means 99; company c honest coins 99; company d noble coins 99; harvest h grows 100 odds 1;"
                + "tithe 0; juror j holds d price 7;", 0, 30);
        Check.due("a bid", 30, x.count(7));
        x.year(0);
        x.take(0, 8);
        x.lend(0, 8);
        x.bribe(0);
        x.spare(0);
        Check.due("nothing else", 30, x.count(7));
        Check.due("sued", 1, x.sue());
        Check.due("let go for nothing", 30, x.count(7));
        x.year(0);
        x.take(0, 8);
        Check.due("sued", 0, x.sue());
        Check.due("twice 8", 46, x.count(7));
        x.bid(1, 10);
        x.award();
        Check.due("three quarters of 10", 53, x.count(7));
        x.undo();
        Check.due("undone", 46, x.count(7));
    }

    private static void meansOfAll() {
        Check.due("without TOWNS", 0, Check.farm("company c fair coins 1;").count(8));
        StringBuilder six = new StringBuilder("company c honest coins 9999; harvest h grows 300 odds 1;");
        for (char name = 'm'; name <= 'r'; name++) {
            six.append("town ").append(name).append(" plain means 999;");
        }
        TaxFarm x = Check.held(six.toString(), 0, 1);
        Check.due("six of 999", 6 * 999, x.count(8));
        for (int i = 0; i < 5; i++) {
            x.year(0);
        }
        Check.due("six of 9,999", 6 * 9999, x.count(8));
        x.spare(3);
        Check.due("20 fewer", 6 * 9999 - 20, x.count(8));
    }

    private static void lines() {
        TaxFarm x = new TaxFarm();
        for (int count : new int[] {0, 1, 39, 40, 41, 3}) {
            Check.past(x, "sue;".repeat(count));
            Check.due("lines behind " + count, Math.min(40, count), x.count(9));
        }
    }

    private static void tales() {
        TaxFarm x = Check.farm("company a fair coins 1; company b fair coins 1; company c fair coins 1; company d fair coins 1;"
                + "company e fair coins 1; harvest h grows 1 odds 1;");
        for (int i = 0; i < 5; i++) {
            Check.due("TALES", i, x.count(10));
            x.tale(i, 5);
            x.tale(i, 6);
        }
        Check.due("all of them", 5, x.count(10));
        x.tale(5, 5);
        x.tale(0, -1);
        Check.due("no more", 5, x.count(10));
    }

    private static void undone() {
        TaxFarm x = Check.farm("company a fair coins 1;");
        for (int i = 0; i <= 20; i++) {
            Check.due("can be undone", Math.min(16, i), x.count(11));
            x.bid(0, i % 2);
        }
    }

    private static void signs() {
        TaxFarm x = new TaxFarm();
        for (int i = 0; i <= 45; i++) {
            Check.due("signs", Math.min(1000, 24 * i), x.count(12));
            x.feed(0x2020202020202020L, 0x2020202020202020L, 0x2020202020202020L);
        }
        x.province();
        Check.due("read", 0, x.count(12));
    }

    /** 'Who holds it; NONE: nobody'. */
    private static void holders() {
        for (int who = 0; who < 5; who++) {
            TaxFarm x = Check.farm("company a honest coins 9; company b noble coins 9; company c fair coins 9; company d honest coins 9;"
                    + "company e noble coins 9; harvest h grows 1 odds 1;");
            Check.due("nobody", -1, x.holder());
            x.bid(who, 5);
            Check.due("a bid", -1, x.holder());
            x.award();
            for (int i = 0; i < 5; i++) {
                Check.due("holder", who, x.holder());
                x.year(0);
            }
            Check.due("let go", 1, x.sue());
            Check.due("holder", who, x.holder());
            x.close();
            Check.due("closed", -1, x.holder());
            x.undo();
            Check.due("undone", who, x.holder());
        }
    }

    /** What is done with one object is nothing to another one. */
    private static void objectsAreApart() {
        TaxFarm x = Check.held("town a plain means 9; company c honest coins 9; harvest h grows 9 odds 9; juror j holds c price 0;", 0, 5);
        String before = Look.at(x);
        TaxFarm y = Check.held("town b rich means 7; company d noble coins 8; harvest i grows 5 odds 3; juror k holds d price 1;", 0, 4);
        y.year(0);
        y.bribe(0);
        y.spare(0);
        y.tale(0, 1);
        y.mark(0, false);
        Check.feed(y, "abc");
        Check.due("it stays", true, before.equals(Look.at(x)));
        Check.due("no MARK", false, x.mark(0, true));
    }
}
