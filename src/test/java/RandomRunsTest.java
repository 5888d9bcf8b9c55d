/** Runs of 512 calls, the same each time, on the class and on the slow model; every answer must be the same. */
public final class RandomRunsTest {
    private static final Due due = new Due("RandomRunsTest");
    private static long state;
    private static TwoAlike x;
    private static Model m;
    private static int dear;

    private static int below(int n) {
        state = state * 6364136223846793005L + 1442695040888963407L;
        return (int) ((state >>> 33) % n);
    }

    /** Mostly within the bounds, at times just outside, seldom far outside. */
    private static int near(int low, int high) {
        int kind = below(40);
        if (kind == 0) return low - 1;
        if (kind == 1) return high + 1;
        if (kind == 2) return below(2) == 0 ? Integer.MIN_VALUE + below(3) : Integer.MAX_VALUE - below(3);
        return low + below(high - low + 1);
    }

    private static int someone() {
        int size = m.count(0);
        return size == 0 || below(30) == 0 ? near(0, 6) : below(size);
    }

    private static int pair() {
        if (below(30) == 0) return near(0, 66);
        return 10 * someone() + someone();
    }

    private static void same(String call, long got, long want) {
        due.is(call, got, want);
    }

    private static final String[] LAWS = {
        "d<2", "d<3", "d<1+e", "h=0&d<3", "a+b>70", "(a%4)=(b%4)", "m<6?d<2;d<4", "h?d<1;d<3", "d=1|d=3",
        "b-a<8", "!(d-1)", "m%2=0&d<e+1;1", "(m=h)?d<4", "a*b%7<3", "1", "0", "d<4;b", "-d+3>0", "a/b", "h=1|d<1+h"};

    private static void randomLaw() {
        String text;
        if (below(3) > 0) {
            text = LAWS[below(LAWS.length)];
        } else {
            StringBuilder out = new StringBuilder();
            write(out, 3);
            if (below(3) == 0) out.insert(0, "d<3?e;");
            if (below(4) == 0) out.append(";d");
            if (below(4) == 0) out.setCharAt(below(out.length()), "(!-;?<=d9)".charAt(below(10)));
            text = out.toString();
        }
        for (int k = 0; k < text.length(); k++) {
            int letter = text.charAt(k);
            same("feed(" + letter + ")", x.feed(letter), m.feed(letter));
        }
        same("law() of " + text, x.law(), m.law());
    }

    private static void write(StringBuilder out, int depth) {
        int kind = depth == 0 ? below(2) : below(6);
        if (kind == 0) {
            out.append("dabhme".charAt(below(6)));
        } else if (kind == 1) {
            out.append(below(5) == 0 ? below(10000) : below(8));
        } else if (kind == 2) {
            out.append("!-".charAt(below(2)));
            out.append('(');
            write(out, depth - 1);
            out.append(')');
        } else {
            boolean bracket = below(2) == 0;
            if (bracket) out.append('(');
            write(out, depth - 1);
            out.append("+-*/%<=>|&".charAt(below(10)));
            write(out, depth - 1);
            if (bracket) out.append(')');
        }
    }

    private static void peopleCalls() {
        int a = someone(), b;
        switch (below(8)) {
            case 0: a = near(0, 63); b = near(0, 63); same("person " + a + " " + b, x.person(a, b), m.person(a, b)); break;
            case 1: b = 10 * near(0, 4) + near(1, 6); same("errand " + a + " " + b, x.errand(a, b), m.errand(a, b)); break;
            case 2: b = 10 * near(0, 1) + near(1, 6); same("errand " + a + " " + b, x.errand(a, b), m.errand(a, b)); break;
            case 3: if (below(4) == 0) same("clear " + a, x.clear(a), m.clear(a)); break;
            case 4: b = near(-1, 5); same("hat " + a + " " + b, x.hat(a, b), m.hat(a, b)); break;
            case 5:
                int what = near(0, 2), v = below(2) == 0 ? near(0, 63) : near(0, 7);
                same("mend " + a + " " + what + " " + v, x.mend(a, what, v), m.mend(a, what, v));
                break;
            case 6:
                b = near(3, 4);
                v = near(0, b == 3 ? 3 : 11);
                a = near(0, 0);
                same("mend " + a + " " + b + " " + v, x.mend(a, b, v), m.mend(a, b, v));
                break;
            default:
                b = below(4) > 0 ? near(0, 6) : below(2) == 0 ? near(10, 11) : near(20, 22);
                if (b > 19 || below(5) == 0) a = below(10);
                same("of " + a + " " + b, x.of(a, b), m.of(a, b));
        }
    }

    private static void dayCalls() {
        int a = someone(), b;
        switch (below(8)) {
            case 0: same("plan", x.plan(), m.plan()); break;
            case 1: b = near(0, 29); same("where " + a + " " + b, x.where(a, b), m.where(a, b)); break;
            case 2: b = near(0, 1); same("waited " + a + " " + b, x.waited(a, b), m.waited(a, b)); break;
            case 3: b = near(0, 1); same("led " + a + " " + b, x.led(a, b), m.led(a, b)); break;
            case 4: same("bars " + a, x.bars(a), m.bars(a)); break;
            case 5:
                if (m.count(0) > 5 && dear++ > 0) break;
                b = near(-1, m.count(0) - 1);
                same("best " + b, x.best(b), m.best(b));
                break;
            case 6: b = pair(); same("alike " + b, x.alike(b), m.alike(b)); break;
            default: same("needs", x.needs(), m.needs());
        }
    }

    private static void hatCalls() {
        int a = below(3) == 0 ? -1 : someone();
        switch (below(5)) {
            case 0: if (below(3) == 0) same("hats " + a, x.hats(a), m.hats(a)); break;
            case 1: same("needs", x.needs(), m.needs()); break;
            case 2: a = near(0, 1); same("kinds " + a, x.kinds(a), m.kinds(a)); break;
            case 3: a = pair(); same("pass " + a, x.pass(a), m.pass(a)); break;
            default: a = pair(); same("alike " + a, x.alike(a), m.alike(a));
        }
    }

    private static void toldCalls() {
        int a = someone(), b, c;
        switch (below(9)) {
            case 0:
            case 1:
                b = 100 * near(0, 20) + near(0, 29);
                c = near(-1, 4);
                same("go " + a + " " + b + " " + c, x.go(a, b, c), m.go(a, b, c));
                break;
            case 2: b = near(0, 2); same("judge " + b, x.judge(b), m.judge(b)); break;
            case 3: b = pair(); c = near(0, 1); same("watch " + b + " " + c, x.watch(b, c), m.watch(b, c)); break;
            case 4:
                b = 10 * near(0, 29) + near(0, 4);
                if (below(2) == 0) b = 10 * near(0, 3) + near(0, 1);
                c = below(2) == 0 && m.count(0) > 0 ? m.of(below(m.count(0)), 4) ^ below(2) : near(0, 15);
                same("sight " + b + " " + c, x.sight(b, c), m.sight(b, c));
                break;
            case 5:
                if (m.count(2) > 7 && below(10) > 0) break;
                b = near(0, 6);
                same("atLeast " + b, x.atLeast(b), m.atLeast(b));
                break;
            case 6: b = near(0, 9); same("who " + b, x.who(b), m.who(b)); break;
            default: b = near(0, 29); c = near(0, 1); same("gone " + b + " " + c, x.gone(b, c), m.gone(b, c));
        }
    }

    private static void monthCalls() {
        int a;
        switch (below(8)) {
            case 0: a = near(1, 12); same("months " + a, x.months(a), m.months(a)); break;
            case 1: same("turn", x.turn(), m.turn()); break;
            case 2: if (below(3) == 0) same("image", x.image(), m.image()); break;
            case 3: if (below(2) == 0) same("back", x.back(), m.back()); break;
            case 4:
            case 5: same("undo", x.undo(), m.undo()); break;
            case 6: same("redo", x.redo(), m.redo()); break;
            default: a = near(0, 6); same("count " + a, x.count(a), m.count(a));
        }
    }

    private static void twinCalls() {
        int a = near(0, Math.max(0, m.count(5) - 1)), b, c;
        switch (below(5)) {
            case 0: a = near(0, 7); same("body " + a, x.body(a), m.body(a)); break;
            case 1:
            case 2:
                b = near(0, 3);
                c = below(3) == 0 ? near(0, 1000000000) : near(-9, 9);
                same("act " + a + " " + b + " " + c, x.act(a, b, c), m.act(a, b, c));
                for (int i = 0; i < 15; i++) same("trace " + i, x.trace(i), m.trace(i));
                break;
            case 3: b = near(0, 5); a = near(-1, m.count(5) - 1); same("keep " + b + " " + a, x.keep(b, a), m.keep(b, a)); break;
            default: b = near(0, 5); c = near(0, 7); same("taken " + b + " " + c, x.taken(b, c), m.taken(b, c));
        }
    }

    private static void shelfCalls() {
        int s = near(0, 5), i = near(0, 9), b, c;
        switch (below(7)) {
            case 0: b = near(0, 4); c = below(5) == 0 ? near(0, 60) : below(14); same("row " + s + " " + b + " " + c, x.row(s, b, c), m.row(s, b, c)); break;
            case 1:
            case 2:
                long v = below(3) == 0 ? state : near(-3, 63);
                same("put " + s + " " + i + " " + v, x.put(s, i, v), m.put(s, i, v));
                break;
            case 3:
            case 4: same("element " + s + " " + i, x.element(s, i), m.element(s, i)); break;
            case 5:
                int o = near(0, 5), j = near(0, 9), n = near(0, 5);
                same("shift " + s + " " + i + " " + o + " " + j + " " + n, x.shift(s, i, o, j, n), m.shift(s, i, o, j, n));
                break;
            default:
                if (below(4) > 0) break;
                b = near(1, 7);
                same("people " + s + " " + i + " " + b, x.people(s, i, b), m.people(s, i, b));
        }
    }

    private static void call(int profile) {
        int kind = below(12);
        if (kind == 0) {
            randomLaw();
            return;
        }
        switch (kind < 6 ? profile : below(7)) {
            case 0: peopleCalls(); break;
            case 1: dayCalls(); break;
            case 2: hatCalls(); break;
            case 3: toldCalls(); break;
            case 4: monthCalls(); break;
            case 5: twinCalls(); break;
            default: shelfCalls();
        }
    }

    public static void main(String[] args) {
        int runs = args.length > 0 ? Integer.parseInt(args[0]) : 420;
        for (int run = 0; run < runs; run++) {
            state = 1000003L * run + 17;
            below(2);
            x = new TwoAlike();
            m = new Model();
            dear = 0;
            int size = below(8);
            for (int p = 0; p < size; p++) {
                int looks = below(run % 3 == 0 ? 8 : 64), may = below(2) == 0 ? below(64) : below(8);
                same("person", x.person(looks, may), m.person(looks, may));
            }
            for (int k = 0; k < 380; k++) {
                call(run % 7);
            }
        }
        due.close();
    }
}
