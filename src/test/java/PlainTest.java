import java.util.ArrayList;
import java.util.List;
import java.util.Random;

/** Random runs of calls, answered by TaxFarm as by PlainFarm, which was written anew by the document. */
public final class PlainTest {
    private static final String[] WORDS = ("town company harvest juror tithe bar alone owes means coins grows odds holds price plain rich "
            + "proud port honest straw noble fair not and or bid award year take lend call spare bribe sue close wealth crop debt "
            + "ta tb ca cb ha hb ja zz 0 1 5 10 101 300 301 999 1000 9999 10000 ( ) < = + - * ; ; ; ? abcdefgh abcdefghi A").split(" ");
    private static final String[] DEEDS = "bid award year take lend call spare bribe sue close".split(" ");
    private static final int[] EDGES = {-2, -1, 4, 5, 6, 20, 21, 31, 50, 51, 999, 9999, 10000, 99999, 100000,
        Integer.MAX_VALUE, Integer.MIN_VALUE};

    private final Random random;
    private final TaxFarm farm = new TaxFarm();
    private final PlainFarm plain = new PlainFarm();
    private final List<String> told = new ArrayList<>();
    private int calls = 0;
    private int fault = 0;
    private boolean same = true;

    private PlainTest(long seed) {
        random = new Random(seed);
    }

    public static void main(String[] args) {
        int runs = args.length > 0 ? Integer.parseInt(args[0]) : 300;
        int first = args.length > 1 ? Integer.parseInt(args[1]) : 0;
        for (int seed = first; seed < first + runs; seed++) {
            new PlainTest(seed).run(seed);
        }
        Check.end();
    }

    private void run(int seed) {
        tellProvince();
        int most = 200 + draw(312);
        while (calls < most - 60 && same) {
            switch (draw(60)) {
                case 0: tellPast(); break;
                case 1: tellWrong(); break;
                case 2: if (calls < 300 && draw(6) == 0) { tellProvince(); } break;
                default: callAny();
            }
        }
        Check.due("at most 512 calls", true, calls <= 512);
        if (!same) {
            System.out.println("run " + seed + ": " + String.join(" | ", told.subList(Math.max(0, told.size() - 80), told.size())));
        }
    }

    private int draw(int below) {
        return random.nextInt(below);
    }

    private void due(String call, long want, long got) {
        calls++;
        told.add(call + " " + got);
        same &= want == got;
        Check.due(call, want, got);
    }

    private void feed(String text) {
        for (int at = 0; at < text.length(); at += 24) {
            long[] words = new long[3];
            for (int i = 0; i < 24; i++) {
                words[i / 8] = words[i / 8] << 8 | (at + i < text.length() ? text.charAt(at + i) : 0);
            }
            due("feed", plain.feed(words[0], words[1], words[2]), farm.feed(words[0], words[1], words[2]));
        }
        told.add(text);
    }

    private void readProvince(String text) {
        feed(text);
        fault = plain.province();
        due("province", fault, farm.province());
    }

    private void readPast(String text) {
        feed(text);
        due("past", plain.past(), farm.past());
    }

    private int upTo(int most) {
        switch (draw(4)) {
            case 0: return most;
            case 1: return draw(Math.min(most, 12) + 1);
            default: return draw(most + 1);
        }
    }

    /** Mostly two or more. */
    private int some(int most) {
        return draw(6) == 0 ? draw(most + 1) : 2 + draw(most - 1);
    }

    private String provinceText() {
        StringBuilder text = new StringBuilder();
        boolean rich = draw(3) > 0;
        int towns = some(6);
        int companies = some(5);
        int harvests = some(5);
        for (int i = 0; i < towns; i++) {
            text.append("town t").append((char) ('a' + i)).append(' ').append("plain rich proud port".split(" ")[draw(4)])
                    .append(" means ").append(upTo(rich ? 999 : 9)).append(';');
        }
        for (int i = 0; i < companies; i++) {
            text.append("company c").append((char) ('a' + i)).append(' ').append("honest straw noble fair".split(" ")[draw(4)])
                    .append(" coins ").append(upTo(9999)).append(';');
        }
        for (int i = 0; i < harvests; i++) {
            text.append("harvest h").append((char) ('a' + i)).append(" grows ").append(upTo(300))
                    .append(" odds ").append(1 + draw(9)).append(";\n");
        }
        for (int i = some(5); companies > 0 && i > 0; i--) {
            text.append("juror j").append((char) ('a' + i)).append(" holds c").append((char) ('a' + draw(companies)))
                    .append(" price ").append(upTo(draw(2) == 0 ? 20 : 999)).append(';');
        }
        laws(text);
        return text.length() > 1000 ? text.substring(0, 1000) : text.toString();
    }

    private void laws(StringBuilder text) {
        if (draw(3) > 0) {
            text.append("tithe ").append(upTo(100)).append(';');
        }
        if (draw(3) > 0) {
            text.append("bar ").append(upTo(999)).append(';');
        }
        if (draw(2) > 0) {
            text.append("alone ").append(law(0)).append(';');
        }
        if (draw(2) > 0) {
            text.append("owes ").append(law(0)).append(';');
        }
    }

    private String law(int depth) {
        StringBuilder text = new StringBuilder(part(depth));
        for (int i = draw(4); i > 0; i--) {
            text.append(" and , or ,<,=,+,-,*,+,-,*".split(",")[draw(10)]).append(part(depth));
        }
        return text.toString();
    }

    private String part(int depth) {
        switch (depth > 5 ? draw(5) : draw(8)) {
            case 0: return "" + upTo(9999);
            case 1: return "" + draw(6);
            case 2: return "wealth";
            case 3: return "crop";
            case 4: return "debt";
            case 5: return "not " + part(depth + 1);
            default: return draw(1 + depth) > 1 ? "debt" : "(" + law(depth + 1) + ")";
        }
    }

    private void tellProvince() {
        if (draw(6) == 0) {
            readProvince(spoil(provinceText()));
        }
        for (int i = 0; i < 3 && (i == 0 || fault != 0); i++) {
            readProvince(provinceText());
        }
    }

    private String line() {
        String word = DEEDS[draw(10)];
        char index = (char) ('a' + draw(draw(8) == 0 ? 7 : 2));
        switch (word) {
            case "bid": return "bid c" + index + " " + upTo(99) + ";" + (draw(2) == 0 ? "award;" : "");
            case "year": return "year h" + index + ";";
            case "bribe": return "bribe j" + (char) (index + 1) + ";";
            case "spare": return "spare t" + index + ";";
            case "take":
            case "lend":
            case "call": return word + " t" + index + " " + (1 + upTo(60)) + ";";
            case "sue": return draw(3) == 0 ? "sue;" : "year h" + index + ";";
            default: return word + ";";
        }
    }

    private void tellPast() {
        StringBuilder text = new StringBuilder(draw(3) > 0 ? "bid ca 1;award;year ha;" : "");
        int most = draw(45);
        for (int i = 0; i < most && text.length() < 480; i++) {
            text.append(line());
        }
        readPast(text.toString());
    }

    private String spoil(String text) {
        String[] parts = text.split("(?<=[ ;])");
        int at = draw(parts.length);
        parts[at] = draw(4) == 0 ? "" : WORDS[draw(WORDS.length)] + (draw(3) == 0 ? "" : " ");
        return String.join("", parts);
    }

    private void tellWrong() {
        StringBuilder text = new StringBuilder();
        for (int i = draw(4); i > 0; i--) {
            text.append(line());
        }
        String spoiled = spoil(text.append(' ').toString());
        if (draw(2) == 0) {
            readPast(spoiled);
        } else {
            readProvince(draw(2) == 0 ? spoil("town ta rich means 5;alone " + law(0) + ";") + "?" : spoiled + "?");
        }
    }

    private int number() {
        return draw(25) == 0 ? EDGES[draw(EDGES.length)] : draw(draw(4) == 0 ? 6 : 3);
    }

    private int amount() {
        switch (draw(6)) {
            case 0: return EDGES[draw(EDGES.length)];
            case 1: return 1 + draw(9999);
            case 2: return 1 + draw(300);
            default: return 1 + draw(60);
        }
    }

    private static int bit(boolean answer) {
        return answer ? 1 : 0;
    }

    private void callAny() {
        if (plain.holder() < 0 && draw(20) == 0) {
            lease();
        } else if (draw(20) == 0) {
            changeBack(number());
        } else if (draw(2) == 0) {
            callHand(number(), amount());
        } else {
            callLook(number(), number(), number());
        }
    }

    /** A bid that can mostly be, and an award. */
    private void lease() {
        int company = number();
        int bid = Math.min(1 + draw(200), plain.company(company, 1));
        due("bid(" + company + ", " + bid + ")", plain.deed("bid", company, bid, 0), bit(farm.bid(company, bid)));
        due("award", plain.deed("award", 0, 0, -2), farm.award());
    }

    private void changeBack(int a) {
        switch (draw(4)) {
            case 0: due("mark(" + a + ")", plain.mark(a, false), bit(farm.mark(a, false))); break;
            case 1: due("back(" + a + ")", plain.mark(a, true), bit(farm.mark(a, true))); break;
            default: due("undo", plain.undo(), bit(farm.undo()));
        }
    }

    private void callHand(int a, int n) {
        String call = "(" + a + ", " + n + ")";
        switch (draw(20)) {
            case 0:
            case 1: due("bid" + call, plain.deed("bid", a, n, 0), bit(farm.bid(a, n))); break;
            case 2: due("award", plain.deed("award", 0, 0, -2), farm.award()); break;
            case 3:
            case 4:
            case 5: due("year" + call, plain.deed("year", a, 0, -1), farm.year(a)); break;
            case 6:
            case 7:
            case 8:
            case 9: due("take" + call, plain.deed("take", a, n, -1), farm.take(a, n)); break;
            case 10:
            case 11: due("lend" + call, plain.deed("lend", a, n, -1), farm.lend(a, n)); break;
            case 12:
            case 13: due("call" + call, plain.deed("call", a, n, -1), farm.call(a, n)); break;
            case 14: due("spare" + call, plain.deed("spare", a, 0, -1), farm.spare(a)); break;
            case 15: due("bribe" + call, plain.deed("bribe", a, 0, 0), bit(farm.bribe(a))); break;
            case 16: if (draw(3) == 0) { due("sue", plain.deed("sue", 0, 0, -1), farm.sue()); } break;
            case 17: due("close", plain.deed("close", 0, 0, 0), bit(farm.close())); break;
            default: tell(a, n);
        }
    }

    /** Mostly what some set is worth, so that there are sets to be known. */
    private void tell(int a, int n) {
        int worth = draw(4) == 0 ? n : Math.max(0, plain.worth(1 + draw((1 << plain.count(2)) - 1 | 1)));
        due("tale(" + a + ", " + worth + ")", plain.tale(a, worth), bit(farm.tale(a, worth)));
    }

    private void callLook(int a, int b, int c) {
        String call = "(" + a + ", " + b + ", " + c + ")";
        switch (draw(21)) {
            case 0: due("town" + call, plain.town(a, b + c), farm.town(a, b + c)); break;
            case 1: due("town" + call, plain.town(a, c), farm.town(a, c)); break;
            case 2: due("company" + call, plain.company(a, b), farm.company(a, b)); break;
            case 3: due("juror" + call, plain.juror(a, b), farm.juror(a, b)); break;
            case 4: due("holder", plain.holder(), farm.holder()); break;
            case 5: due("judged" + call, plain.judged(a), farm.judged(a)); break;
            case 6: due("worth" + call, plain.worth(a * 7 + b), farm.worth(a * 7 + b)); break;
            case 7: due("news", plain.news(), farm.news()); break;
            case 8: gather(a, b, c); break;
            case 9: due("rate" + call, plain.rate(a, b, c * 3), farm.rate(a, b, c * 3)); break;
            case 10: due("free" + call, plain.free(a), farm.free(a)); break;
            case 11: due("agree" + call, plain.agree(a, b), farm.agree(a, b)); break;
            case 12: due("knew" + call, plain.knew(a, b), farm.knew(a, b)); break;
            case 13: due("secret", plain.secret(), farm.secret()); break;
            case 14: due("next", plain.next(), farm.next()); break;
            case 15: due("rests" + call, plain.rests(a + b, c, a - 1), Check.rests(farm, a + b, c, a - 1)); break;
            case 16:
            case 17: lustra(a); break;
            default: due("count" + call, plain.count(a + b + c), farm.count(a + b + c));
        }
    }

    private void gather(int a, int b, int c) {
        int what = draw(9) - 1;
        due("gather(" + a + ", " + b + ", " + c + ", " + what + ")", plain.gather(a, b, c, what), farm.gather(a, b, c, what));
    }

    private void lustra(int what) {
        int seed = draw(30) == 0 ? -1 + 10001 * draw(2) : draw(10000);
        int years = draw(52);
        due("lustra(" + seed + ", " + years + ", " + what + ")", plain.lustra(seed, years, what), farm.lustra(seed, years, what));
    }
}
