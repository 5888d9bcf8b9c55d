/** Promises 18 to 21: the fewest hats, how many pairs are alike, the greatest kind, who passes for whom. */
public final class HatsTest {
    private static final Due due = new Due("HatsTest");

    public static void main(String[] args) {
        hats();
        hatsOfMany();
        hatsByLaw();
        needs();
        kinds();
        pass();
        searches();
        due.close();
    }

    /** Promise 18. */
    private static void hats() {
        TwoAlike x = new TwoAlike();
        due.is("nobody", x.hats(-1), 0);
        due.is("nobody", x.hats(0), TwoAlike.VOID);
        x.person(5, 0);
        x.person(5, 6);
        due.is("one hat", x.hats(-1), 1);
        due.is("none for 0", x.hats(0), -1);
        due.is("the first part", x.hats(1), 1);
        due.is("bad", x.hats(2), TwoAlike.VOID);
        due.is("bad", x.hats(-2), TwoAlike.VOID);
        x.hat(1, 2);
        due.is("what is worn does not count", x.hats(1), 1);
        due.is("nor is it changed", x.of(1, 3), 2);
        x.mend(0, 1, 8);
        due.is("of like ones none first", x.hats(0), -1);
        due.is("of like ones none first", x.hats(1), 1);
        x.mend(1, 1, 0);
        due.is("who can", x.hats(0), 3);
        due.is("who can not, though it wears one", x.hats(1), -1);
        x.mend(0, 1, 0);
        due.is("no way", x.hats(-1), -2);
        due.is("no way", x.hats(0), -2);
        due.is("bad ahead of no way", x.hats(2), TwoAlike.VOID);
    }

    private static void hatsOfMany() {
        TwoAlike x = new TwoAlike();
        for (int p = 0; p < 7; p++) x.person(0, 63);
        due.is("six of seven", x.hats(-1), 6);
        int[] want = {-1, 0, 1, 2, 3, 4, 5};
        for (int p = 0; p < 7; p++) due.is("hats", x.hats(p), want[p]);
        x.mend(3, 0, 1);
        due.is("hats", x.hats(-1), 5);
        for (int p = 0; p < 7; p++) due.is("hats", x.hats(p), new int[] {-1, 1, 2, -1, 3, 4, 5}[p]);
        x.mend(0, 3, 2);
        due.is("no way", x.hats(-1), -2);
    }

    private static void hatsByLaw() {
        TwoAlike x = new TwoAlike();
        x.person(0, 1);
        x.person(63, 1);
        x.person(7, 1);
        Due.lawOf(x, "h<2");
        due.is("all must wear one", x.hats(-1), 3);
        due.is("hat", x.hats(0), 0);
        Due.lawOf(x, "m=0&h<1");
        due.is("all but one", x.hats(-1), 2);
        due.is("of like ones none first", x.hats(0), -1);
        x.turn();
        due.is("by the month", x.hats(-1), 0);
        Due.lawOf(x, "1");
        due.is("no way", x.hats(1), -2);
        Due.lawOf(x, "h<2");
        for (int p = 3; p < 7; p++) x.person(p, 40);
        due.is("all seven", x.hats(-1), 7);
        for (int p = 0; p < 7; p++) due.is("hat", x.hats(p), p < 3 ? 0 : 3);
    }

    /** Promise 19. */
    private static void needs() {
        TwoAlike x = new TwoAlike();
        due.is("nobody", x.needs(), 0);
        for (int p = 0; p < 7; p++) {
            x.person(p, 63);
            due.is("unlike", x.needs(), 0);
        }
        x.mend(0, 3, 6);
        due.is("all", x.needs(), 21);
        x.mend(0, 3, 1);
        due.is("by one part", x.needs(), 9);
        x.mend(0, 3, 0);
        x.hat(1, 0);
        due.is("by a hat", x.needs(), 1);
    }

    /** Promise 20. */
    private static void kinds() {
        TwoAlike x = new TwoAlike();
        due.is("nobody", x.kinds(0), 0);
        due.is("bad", x.kinds(2), -1);
        due.is("bad", x.kinds(-1), -1);
        int[] looks = {0, 9, 9, 20, 0, 33, 9};
        for (int look : looks) x.person(look, 0);
        due.is("three of nine", x.kinds(0), 3);
        due.is("three of nine", x.kinds(1), 2 + 4 + 64);
        x.mend(6, 0, 50);
        due.is("the least bits", x.kinds(1), 6);
        x.mend(2, 0, 51);
        due.is("the least bits", x.kinds(1), 17);
        x.mend(0, 0, 52);
        due.is("one alone", x.kinds(0), 1);
        due.is("one alone", x.kinds(1), 1);
        Due.lawOf(x, "d=0|1");
        due.is("all", x.kinds(1), 127);
    }

    /** Promise 21. */
    private static void pass() {
        TwoAlike x = new TwoAlike();
        x.person(0, 63);
        x.person(16, 2);
        x.person(18, 2);
        due.is("by part 4", x.pass(1), 4);
        due.is("not by one", x.pass(2), -2);
        due.is("by part 1", x.pass(12), 1);
        due.is("not at all", x.pass(10), -2);
        x.hat(2, 1);
        due.is("as that one is seen", x.pass(2), 4);
        due.is("none first", x.pass(12), -1);
        x.hat(1, 1);
        due.is("what it wears itself does not count", x.pass(12), -1);
        due.is("worn is kept", x.of(1, 3), 1);
        x.mend(1, 1, 0);
        due.is("a hat that stays is no choice", x.pass(10), -2);
        x.mend(0, 3, 6);
        due.is("none first", x.pass(1), -1);
        int[] bad = {0, 11, 3, 30, -1, -10, 77, Integer.MIN_VALUE, Integer.MAX_VALUE};
        for (int pq : bad) due.is("pass " + pq, x.pass(pq), TwoAlike.VOID);
    }

    private static void searches() {
        String[] laws = {"d<2", "d<3&h<2", "a+b>60", "(a%8)=(b%8)", "h=1|d<2", "b-a<5", "m=h|d=1|d=3"};
        long state = 5;
        for (int run = 0; run < 140; run++) {
            TwoAlike x = new TwoAlike();
            Model m = new Model();
            for (int p = 0; p < 3 + run % 4; p++) {
                state = state * 6364136223846793005L + 1442695040888963407L;
                int looks = (int) (state >>> 58), may = (int) (state >>> 40) & 63;
                due.is("person", x.person(looks, may), m.person(looks, may));
            }
            String law = laws[run % laws.length];
            Due.lawOf(x, law);
            for (int k = 0; k < law.length(); k++) m.feed(law.charAt(k));
            due.is("law", m.law(), 1);
            for (int p = -1; p < x.count(0); p++) due.is("hats " + p + " by " + law, x.hats(p), m.hats(p));
            due.is("kinds", x.kinds(1), m.kinds(1));
        }
    }
}
