import java.util.List;

/** An object serves 512 calls, whichever they are; the dearest ones too, each time with the same answer. */
public final class CallsBoundsTest {
    private static final Due due = new Due("CallsBoundsTest");
    private static final int MOST_CALLS = 512;

    public static void main(String[] args) {
        lastCall();
        dearCalls();
        due.close();
    }

    private static void lastCall() {
        Script.run(due, "the 512th call is a turn", Script.times(510, "turn()"), "turn() = 7", "turn() = 8");
        Script.run(due, "the 512th call is a refused one", Script.times(510, "person(64, 0) = BAD"), "count(0) = 0",
            "person(64, 0) = BAD");
        Script.run(due, "the 512th call is a change", "person(0, 0)", Script.times(255, "mend(0, 0, 63)"),
            Script.times(255, "mend(0, 0, 63) = 63"), "mend(0, 0, 62) = 63");
        Script.run(due, "the 512th call is an act", "body(7)", Script.times(510, "act(0, 3, 4) = 14"),
            "act(0, 3, 4) = 14");
        Script.run(due, "the 512th call is a law", List.of(), Script.times(510, "law() = -100"), "feed('d') = 1",
            "law() = 1");
    }

    /** Seven people in one street with four errands each, a long law, ten sights. */
    private static TwoAlike busy() {
        TwoAlike x = new TwoAlike();
        for (int p = 0; p < 7; p++) {
            x.person(9 * p, 63);
            for (int k = 0; k < 4; k++) x.errand(p, 1 + (p + k) % 3);
        }
        for (int s = 0; s < 10; s++) x.sight(10 * s, 7 * s % 64);
        Due.lawOf(x, "d<3&" + "(a*b+m%5>0)&".repeat(7) + "h<9");
        return x;
    }

    private static void dearCalls() {
        TwoAlike first = busy();
        int best = first.best(6), hats = first.hats(6), fewest = first.atLeast(2), bars = first.bars(6), kinds = first.kinds(1);
        TwoAlike x = busy();
        for (int calls = 7 * 5 + 10 + 92; calls + 5 <= MOST_CALLS; calls += 5) {
            due.is("best(6), call " + calls, x.best(6), best);
            due.is("hats(6), call " + calls, x.hats(6), hats);
            due.is("atLeast(2), call " + calls, x.atLeast(2), fewest);
            due.is("bars(6), call " + calls, x.bars(6), bars);
            due.is("kinds(1), call " + calls, x.kinds(1), kinds);
        }
    }
}
