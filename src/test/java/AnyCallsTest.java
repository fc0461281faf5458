/**
 * Calls of all kinds with arguments of all sizes: none may throw what the document does not name for it. The calls
 * come of a fixed row of numbers, so that every run of this test is the same.
 */
final class AnyCallsTest {
    private static final int OBJECTS = 4000;
    private static final String[] PIECES = {
        "a", "b", "len", "f", "g", "#", "#x", "1", "0", "1.5", "0.0", "999999", "'x'", "'true'", "''", "'12345678'",
        "true", "null", "(", ")", "(", ")", "f(", "g(", ",", ".", "?.", "?", ":", "?:", "=", "==", "!=", "<", ">=", "+",
        "-", "*", "/", "%", "!", "&&", "||", " ", "f(a,b)", "g(1)", "me()", ".a", ".f(1)", "?.me()", "#o=", "a="
    };

    private static long seed = 1;

    private static int next(int bound) {
        seed = seed * 6364136223846793005L + 1442695040888963407L;
        return (int) Math.floorMod(seed >>> 33, (long) bound);
    }

    private static int any(int usual) {
        switch (next(12)) {
            case 0:
                return -1;
            case 1:
                return Integer.MIN_VALUE;
            case 2:
                return Integer.MAX_VALUE;
            case 3:
                return 14348906 + next(3);
            default:
                return next(usual);
        }
    }

    public static void main(String[] args) {
        for (int i = 0; i < OBJECTS; i++) {
            PhraseDesk x = new PhraseDesk();
            int calls = i % 50 == 0 ? 2000 : 512;
            while (calls > 0) {
                calls -= next(3) == 0 ? write(x) : call(x);
            }
        }
        Check.end();
    }

    /** Writes pieces of a text; answers how many calls that took. */
    private static int write(PhraseDesk x) {
        int calls = 0;
        for (int pieces = next(9); pieces >= 0; pieces--) {
            String piece = PIECES[next(PIECES.length)];
            for (int i = 0; i < piece.length() && x.about(0) < 40; i++) {
                x.letter(piece.charAt(i));
                calls++;
            }
        }
        called("parse", () -> x.parse());
        return calls + 1;
    }

    private static int call(PhraseDesk x) {
        int a = any(6);
        int b = any(9);
        int c = any(14);
        int d = any(14);
        int e = any(6);
        switch (next(14)) {
            case 0:
                called("letter", () -> x.letter(next(3) == 0 ? a : 32 + next(95)));
                break;
            case 1:
                called("type", () -> x.type(a));
                break;
            case 2:
                called("field", () -> x.field(a, b, c));
                break;
            case 3:
                called("method", () -> x.method(a, b, c, d, e, c));
                break;
            case 4:
                called("make", () -> x.make(a));
                break;
            case 5:
                called("converter", () -> x.converter(c, a, next(4) > 0));
                break;
            case 6:
                called("keep", () -> x.keep(c));
                break;
            case 7:
                called("put", () -> x.put(a, b));
                break;
            case 8:
                x.result(a);
                x.text(b);
                x.about(a);
                break;
            default:
                called("run", () -> look(x, x.run(any(40), any(8) - 1)));
                break;
        }
        return 1;
    }

    private static void look(PhraseDesk x, int failure) {
        int kind = x.result(0);
        if (failure < 0 || failure > 11 || failure > 0 && kind != 0 || kind < 0 || kind > 12) {
            Check.same("run", failure + " and kind " + kind, "0 .. 11 and its kind");
        }
        if (kind == 4 && (x.result(1) < 0 || x.result(1) > 16)) {
            Check.same("a TEXT's length", x.result(1), 16);
        }
    }

    private static void called(String what, Check.Call call) {
        try {
            call.make();
        } catch (IllegalArgumentException | IllegalStateException e) {
            StackTraceElement[] trace = e.getStackTrace();
            if (trace.length == 0 || !trace[0].getMethodName().equals(what)) {
                Check.same(what, e.toString(), "an exception of its own");
            }
        } catch (RuntimeException e) {
            Check.same(what, e.toString(), "no such exception");
        }
    }
}
