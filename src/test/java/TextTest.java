import java.math.BigInteger;
import java.util.ArrayDeque;
import java.util.Deque;
import java.util.Random;
import java.util.regex.Matcher;
import java.util.regex.Pattern;

/**
 * Random texts: those made from a tree tell the tree's value; any string of tokens has the fault
 * that a second finder, which keeps a stack and no grammar, finds in it.
 */
public final class TextTest {
    private static final int RUNS = 20000;
    private static final BigInteger FARTHEST = BigInteger.valueOf(1000000000);
    private static final BigInteger LARGEST_NUMBER = BigInteger.valueOf(9999);

    private static final Pattern TOKEN = Pattern.compile("[a-zA-Z]+|[0-9]+|[^ ]", Pattern.DOTALL);

    private static final Random RANDOM = new Random(4711);
    private static final int[] VALUES = new int[5];

    /** A text with its value; how tightly it binds: 0 a SUM, 1 a PRODUCT, 2 a ONE. */
    private record Part(String text, BigInteger value, int binds, int depth) {
    }

    public static void main(String[] args) {
        for (int i = 0; i < RUNS; i++) {
            tellsItsTree();
            hasItsFault();
        }
        Due.finish();
    }

    private static void tellsItsTree() {
        for (int i = 0; i < VALUES.length; i++) {
            int most = RANDOM.nextBoolean() ? 1000000 : 10;
            VALUES[i] = RANDOM.nextInt(2 * most + 1) - most;
        }
        Part p = part(RANDOM.nextInt(6));
        if (p.text().length() > 100 || p.depth() > 8) {
            return;
        }
        Mill x = new Mill();
        Due.is("text " + p.text(), Due.text(x, p.text()), true);
        Due.is("tells of " + p.text(), x.tells(VALUES[0], VALUES[1], VALUES[2], VALUES[3], VALUES[4]),
                p.value().longValue());
    }

    private static BigInteger limit(BigInteger value) {
        return value.min(FARTHEST).max(FARTHEST.negate());
    }

    private static String blank() {
        return RANDOM.nextInt(8) == 0 ? " " : "";
    }

    private static Part part(int levels) {
        int kind = levels == 0 ? RANDOM.nextInt(2) : 2 + RANDOM.nextInt(7);
        switch (kind) {
            case 0: {
                int number = RANDOM.nextInt(RANDOM.nextBoolean() ? 4 : 10000);
                return new Part(blank() + number + blank(), BigInteger.valueOf(number), 2, 0);
            }
            case 1: {
                int i = RANDOM.nextInt(5);
                return new Part(blank() + "tsmbh".charAt(i), BigInteger.valueOf(VALUES[i]), 2, 0);
            }
            case 2: {
                Part inner = one(part(levels - 1));
                return new Part(blank() + "-" + inner.text(), inner.value().negate(), 2, inner.depth() + 1);
            }
            case 3: case 4:
                return lesserOrGreater(kind == 3, part(levels - 1), part(levels - 1));
            case 5: case 6:
                return sum(kind == 5, part(levels - 1), part(levels - 1));
            default:
                return product(kind == 7, part(levels - 1), part(levels - 1));
        }
    }

    private static Part bracket(Part p) {
        return new Part(blank() + "(" + p.text() + ")" + blank(), p.value(), 2, p.depth() + 1);
    }

    private static Part one(Part p) {
        return p.binds() == 2 ? p : bracket(p);
    }

    private static Part lesserOrGreater(boolean lesser, Part a, Part b) {
        String text = blank() + (lesser ? "min" : "max") + blank() + "(" + a.text() + "," + b.text() + blank() + ")";
        BigInteger value = lesser ? a.value().min(b.value()) : a.value().max(b.value());
        return new Part(text, value, 2, Math.max(a.depth(), b.depth()) + 1);
    }

    private static Part sum(boolean adds, Part a, Part right) {
        Part b = right.binds() == 0 ? bracket(right) : right;
        BigInteger value = adds ? a.value().add(b.value()) : a.value().subtract(b.value());
        return new Part(a.text() + (adds ? "+" : "-") + b.text(), limit(value), 0, Math.max(a.depth(), b.depth()));
    }

    private static Part product(boolean multiplies, Part left, Part right) {
        Part a = left.binds() == 0 ? bracket(left) : left;
        Part b = one(right);
        BigInteger value = a.value().multiply(b.value());
        if (!multiplies) {
            value = b.value().signum() == 0 ? BigInteger.ZERO : a.value().divide(b.value());
        }
        return new Part(a.text() + (multiplies ? "*" : "/") + b.text(), limit(value), 1, Math.max(a.depth(), b.depth()));
    }

    private static void hasItsFault() {
        String text = RANDOM.nextBoolean() ? spoiled(part(RANDOM.nextInt(5)).text()) : tokens();
        if (text.length() > 100) {
            text = text.substring(0, 100);
        }
        int[] due = fault(text);
        Mill x = new Mill();
        Due.is("text " + text, Due.text(x, text), due[0] == 0);
        Due.is("fault of " + text, x.fault(0), due[0]);
        Due.is("place of " + text, x.fault(1), due[1]);
    }

    private static String anyToken() {
        String[] tokens = {"t", "s", "m", "b", "h", "min", "max", "+", "-", "*", "/", "(", ")", ",", " ",
            "7", "9999", "10000", "x", "T", "\u00ff", "-", "(", "min(", "(-"};
        return tokens[RANDOM.nextInt(tokens.length)];
    }

    private static String spoiled(String text) {
        int place = RANDOM.nextInt(text.length() + 1);
        int behind = Math.min(text.length(), place + RANDOM.nextInt(2));
        return text.substring(0, place) + (RANDOM.nextInt(3) == 0 ? "" : anyToken()) + text.substring(behind);
    }

    /** Mostly what can stand there, so that faults come late and deep. */
    private static String tokens() {
        StringBuilder text = new StringBuilder();
        int length = RANDOM.nextInt(25);
        for (int i = 0; i < length; i++) {
            String next = anyToken();
            for (int tries = 0; tries < 6 && fault(text + next)[1] < text.length() + next.length()
                    && fault(text + next)[0] != 0; tries++) {
                next = anyToken();
            }
            text.append(next);
        }
        return text.toString();
    }

    /** The fault and its place; the stack holds what is open: ( and -, < min's first part, > its second. */
    private static int[] fault(String text) {
        Matcher tokens = TOKEN.matcher(text);
        Deque<Character> open = new ArrayDeque<>();
        boolean wantsOne = true;
        boolean wantsBracket = false;
        while (tokens.find()) {
            String token = tokens.group();
            int[] misplaced = {1, tokens.start()};
            if (wantsBracket || wantsOne && token.equals("(") || wantsOne && token.equals("-")) {
                if (wantsBracket && !token.equals("(")) {
                    return misplaced;
                }
                if (open.size() == 8) {
                    return new int[] {3, tokens.start()};
                }
                open.push(wantsBracket ? '<' : token.charAt(0));
                wantsBracket = false;
            } else if (wantsOne) {
                if (token.equals("min") || token.equals("max")) {
                    wantsBracket = true;
                } else if (token.matches("[tsmbh]|[0-9]+")) {
                    if (token.matches("[0-9]+") && new BigInteger(token).compareTo(LARGEST_NUMBER) > 0) {
                        return new int[] {2, tokens.start()};
                    }
                    wantsOne = false;
                } else {
                    return misplaced;
                }
            } else if (token.matches("[-+*/]")) {
                wantsOne = true;
            } else if (token.equals(",") && !open.isEmpty() && open.peek() == '<') {
                open.pop();
                open.push('>');
                wantsOne = true;
            } else if (token.equals(")") && !open.isEmpty() && open.peek() != '<') {
                open.pop();
            } else {
                return misplaced;
            }
            while (!wantsOne && !open.isEmpty() && open.peek() == '-') {
                open.pop();
            }
        }
        return wantsOne || !open.isEmpty() ? new int[] {1, text.length()} : new int[] {0, -1};
    }
}
