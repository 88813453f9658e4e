import java.util.ArrayList;
import java.util.Arrays;
import java.util.HashMap;
import java.util.LinkedHashMap;
import java.util.List;
import java.util.Map;
import java.util.regex.Matcher;
import java.util.regex.Pattern;

/** A second reader of PROVINCES and PASTS, written anew by the document and not for speed. */
final class PlainText {
    /** Ends the reading; kind + 16 * place. */
    static final class Fault extends RuntimeException {
        private static final long serialVersionUID = 1;
        final int number;

        Fault(int kind, int place) {
            number = kind + 16 * place;
        }
    }

    interface Law {
        int of(int wealth, int crop, int debt);
    }

    private static final class Token {
        final String text;
        final int place;

        Token(String text, int place) {
            this.text = text;
            this.place = place;
        }
    }

    private static final Pattern SHAPES = Pattern.compile("[ \n]+|[a-z]+|[0-9]+|.", Pattern.DOTALL);
    private static final Pattern GOOD = Pattern.compile("[a-z]{1,8}|[0-9]{1,4}|[()<=+*;-]");
    private static final List<String> RESERVED = Arrays.asList(Check.RESERVED);
    private static final List<String> KINDS = Arrays.asList("plain", "rich", "proud", "port");
    private static final List<String> SORTS = Arrays.asList("honest", "straw", "noble", "fair");
    private static final Map<String, Integer> ROOM = Map.of("town", 6, "company", 5, "harvest", 5, "juror", 5);

    private final List<Token> tokens = new ArrayList<>();
    private int at = 0;

    /** NAME to what it names ("town", ..), and the rows of numbers told of each. */
    final Map<String, String> names = new LinkedHashMap<>();
    final Map<String, List<int[]>> rows = new HashMap<>();
    final Map<String, Integer> once = new HashMap<>();
    Law alone = (wealth, crop, debt) -> 20;
    Law owes = (wealth, crop, debt) -> debt;

    PlainText(String text) {
        for (String what : ROOM.keySet()) {
            rows.put(what, new ArrayList<>());
        }
        Matcher shapes = SHAPES.matcher(text);
        while (shapes.find()) {
            if (!shapes.group().isBlank()) {
                tokens.add(new Token(shapes.group(), shapes.start()));
            }
        }
        tokens.add(new Token("", text.length()));
    }

    /** An empty province. */
    static PlainText nothing() {
        return new PlainText("");
    }

    private String look() {
        return tokens.get(at).text;
    }

    private Fault fault(int kind) {
        return new Fault(kind, tokens.get(at).place);
    }

    private void require(boolean holds, int kind) {
        if (!holds) {
            throw fault(kind);
        }
    }

    private String step() {
        require(GOOD.matcher(look()).matches(), 1);
        return tokens.get(at++).text;
    }

    private void expect(String text) {
        require(look().equals(text), 1);
        at++;
    }

    private int number(int least, int most) {
        require(look().matches("[0-9]{1,4}"), 1);
        int number = Integer.parseInt(look());
        require(number >= least && number <= most, 4);
        at++;
        return number;
    }

    private int oneOf(List<String> words) {
        int index = words.indexOf(look());
        require(index >= 0, 1);
        at++;
        return index;
    }

    private void requireName() {
        require(look().matches("[a-z]{1,8}") && !RESERVED.contains(look()), 1);
    }

    /** The number of a NAME among those of its sort. */
    private int known(String what) {
        requireName();
        require(what.equals(names.get(look())), 2);
        int number = 0;
        for (Map.Entry<String, String> entry : names.entrySet()) {
            if (entry.getKey().equals(look())) {
                break;
            }
            number += entry.getValue().equals(what) ? 1 : 0;
        }
        at++;
        return number;
    }

    void readProvince() {
        while (!look().isEmpty()) {
            String word = look();
            if (ROOM.containsKey(word)) {
                require(rows.get(word).size() < ROOM.get(word), 5);
                at++;
                readOne(word);
            } else {
                require(Arrays.asList("tithe", "bar", "alone", "owes").contains(word), 1);
                require(!once.containsKey(word), 3);
                once.put(word, 0);
                at++;
                readOnce(word);
            }
            expect(";");
        }
    }

    private void readOne(String word) {
        requireName();
        require(!names.containsKey(look()), 3);
        String name = step();
        int[] row = new int[2];
        if (word.equals("town")) {
            row[0] = oneOf(KINDS);
            expect("means");
            row[1] = number(0, 999);
        } else if (word.equals("company")) {
            row[0] = oneOf(SORTS);
            expect("coins");
            row[1] = number(0, 9999);
        } else if (word.equals("harvest")) {
            expect("grows");
            row[0] = number(0, 300);
            expect("odds");
            row[1] = number(1, 9);
        } else {
            expect("holds");
            row[0] = known("company");
            expect("price");
            row[1] = number(0, 999);
        }
        names.put(name, word);
        rows.get(word).add(row);
    }

    private void readOnce(String word) {
        if (word.equals("tithe")) {
            once.put(word, number(0, 100));
        } else if (word.equals("bar")) {
            once.put(word, number(0, 999));
        } else if (word.equals("alone")) {
            alone = readLaw(0);
        } else {
            owes = readLaw(0);
        }
    }

    private Law readLaw(int within) {
        Law left = readTest(within);
        while (look().equals("and") || look().equals("or")) {
            boolean and = step().equals("and");
            Law one = left;
            Law two = readTest(within);
            left = (w, c, d) -> {
                boolean first = one.of(w, c, d) != 0;
                boolean second = two.of(w, c, d) != 0;
                return (and ? first && second : first || second) ? 1 : 0;
            };
        }
        return left;
    }

    private Law readTest(int within) {
        Law one = readSum(within);
        if (!look().equals("<") && !look().equals("=")) {
            return one;
        }
        boolean less = step().equals("<");
        Law two = readSum(within);
        return (w, c, d) -> (less ? one.of(w, c, d) < two.of(w, c, d) : one.of(w, c, d) == two.of(w, c, d)) ? 1 : 0;
    }

    private Law readSum(int within) {
        Law left = readProduct(within);
        while (look().equals("+") || look().equals("-")) {
            int sign = step().equals("+") ? 1 : -1;
            Law one = left;
            Law two = readProduct(within);
            left = (w, c, d) -> one.of(w, c, d) + sign * two.of(w, c, d);
        }
        return left;
    }

    private Law readProduct(int within) {
        Law left = readPart(within);
        while (look().equals("*")) {
            step();
            Law one = left;
            Law two = readPart(within);
            left = (w, c, d) -> one.of(w, c, d) * two.of(w, c, d);
        }
        return left;
    }

    private Law readPart(int within) {
        require(look().matches("[0-9]{1,4}|wealth|crop|debt|not|\\("), 1);
        require(within < 5, 5);
        String token = step();
        if (token.equals("not")) {
            Law part = readPart(within + 1);
            return (w, c, d) -> part.of(w, c, d) == 0 ? 1 : 0;
        }
        if (token.equals("(")) {
            Law inner = readLaw(within + 1);
            expect(")");
            return inner;
        }
        if (Character.isDigit(token.charAt(0))) {
            int number = Integer.parseInt(token);
            return (w, c, d) -> number;
        }
        char first = token.charAt(0);
        return (w, c, d) -> first == 'w' ? w : first == 'c' ? c : d;
    }

    /** The lines of a PAST of a PROVINCE, each by its word and up to two numbers. */
    List<String[]> readPast(PlainText province) {
        names.putAll(province.names);
        List<String[]> lines = new ArrayList<>();
        while (!look().isEmpty()) {
            String word = look();
            require(Arrays.asList("bid", "award", "year", "take", "lend", "call", "spare", "bribe", "sue", "close").contains(word), 1);
            require(lines.size() < 40, 5);
            at++;
            String[] line = {word, "0", "0"};
            if (!Arrays.asList("award", "sue", "close").contains(word)) {
                String what = Map.of("bid", "company", "year", "harvest", "bribe", "juror").getOrDefault(word, "town");
                line[1] = Integer.toString(known(what));
            }
            if (Arrays.asList("bid", "take", "lend", "call").contains(word)) {
                line[2] = Integer.toString(number(word.equals("bid") ? 0 : 1, 9999));
            }
            expect(";");
            lines.add(line);
        }
        return lines;
    }
}
