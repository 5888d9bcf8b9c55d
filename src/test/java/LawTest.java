/** Promises 9 to 11: the tape, the law and who is alike. */
public final class LawTest {
    private static final Due due = new Due("LawTest");

    public static void main(String[] args) {
        tape();
        faults();
        everyShortText();
        values();
        lines();
        alike();
        due.close();
    }

    /** Promise 9. */
    private static void tape() {
        TwoAlike x = new TwoAlike();
        due.is("feed", x.feed(-1), -1);
        due.is("feed", x.feed(256), -1);
        for (int k = 0; k < 120; k++) due.is("feed", x.feed(k % 3 == 0 ? 255 : 0), k + 1);
        due.is("full", x.feed(7), -3);
        due.is("BAD ahead of FULL", x.feed(256), -1);
        due.is("count", x.count(3), 120);
        due.is("law", x.law(), -100);
        due.is("empty", x.count(3), 0);
        due.is("feed", x.feed('a'), 1);
    }

    private static void faults() {
        String open = "!-(!-(";
        String[] texts = {"", ";", "1;", "12345", "1234", "a b", "A", "d<1<2", "d<1=2", "(d<1)<2", "d?1?2", "(d?1)", "d?",
            "d?1", "?1", "((((((a))))))", "(((((((a", "!!!!!!a", "!!!!!!!a", "------a", "-------a", open + "a))", open + "a)",
            open + "-a", open + "a)+(a))", "(a)+(a)+(a)+(a)+(a)+(a)+(a)+(a)", "!a+!a+!a+!a+!a+!a+!a+!a", "1--1", "1---1",
            "a)", "()", "(a", "d+", "d&", "d&|", "a*b/d%m", "da", "1a", "a1", "d;;", "d<2?1;", "d<2?1;0", "d<2?1;0)", "(1;",
            "!", "-", "a!", "a(", "!(a)!", "1;2?3;4?5", "1;2?3;4?5?", "-(-(-(", "-(-(-(-", "-(-(-((", "a<b&b<a|d=d", "a<b+b<a"};
        for (String text : texts) checkFault(text);
        StringBuilder full = new StringBuilder();
        for (int k = 0; k < 60; k++) full.append("1+");
        checkFault(full.toString());
        full.setCharAt(119, '2');
        checkFault(full.toString());
        full.setCharAt(118, ';');
        checkFault(full.toString());
    }

    /** Promise 10. */
    private static void checkFault(String text) {
        TwoAlike x = new TwoAlike();
        int fault = Text.fault(text);
        due.is("law of " + text, Due.lawOf(x, text), fault < 0 ? 1 : -100 - fault);
        due.is("tape behind " + text, x.count(3), 0);
    }

    private static void everyShortText() {
        String letters = "1a!-(<;?)|";
        char[] text = new char[5];
        for (int number = 0; number < 100000; number++) {
            int rest = number;
            for (int k = 0; k < 5; k++) {
                text[k] = letters.charAt(rest % 10);
                rest /= 10;
            }
            String told = new String(text);
            int fault = Text.fault(told);
            due.is("law of " + told, Due.lawOf(new TwoAlike(), told), fault < 0 ? 1 : -100 - fault);
        }
        due.is("a fault told by hand", Due.lawOf(new TwoAlike(), "d<2?a;(b<3"), -110);
        due.is("a fault told by hand", Due.lawOf(new TwoAlike(), "d<2 ?1"), -103);
        due.is("a fault told by hand", Due.lawOf(new TwoAlike(), "12345"), -104);
    }

    /** Looks 12 and 5: d 2, a 5, b 12; a hat on the one: looks 13, d 1; month 9, ease 4. */
    private static TwoAlike two(String text) {
        TwoAlike x = new TwoAlike();
        x.person(12, 1);
        x.person(5, 0);
        x.mend(0, 4, 9);
        x.mend(0, 3, 4);
        due.is("law " + text, Due.lawOf(x, text), 1);
        return x;
    }

    private static void values() {
        String[] so = {"d=2&a=5&b=12&h=0&m=9&e=4", "1+2*3=7", "7/2=3", "-7/2=-3", "-7%3=-1", "7%-3=1", "5/0=0", "5%0=0",
            "9-4-3=2", "24/4/3=2", "24%7%2=1", "!0", "!5=0", "!!7=1", "-3<0", "- -1".replace(" ", "") + "=1", "(3|0)=1", "(0|0)=0",
            "(3&2)=1", "(3&0)=0", "(2<3)=1", "(3<2)=0", "(2>3)=0", "1|1&0", "2<3&3>2", "9999*9999*30<0",
            "2048*1024*1024<0", "0007=7", "3", "-1", "!a-1<0", "(a|b)=1", "((((((1))))))", "2+!1*5=2", "-2*-3=6"};
        for (String text : so) {
            boolean want = Text.worth(text, new int[] {2, 5, 12, 0, 9, 4}) != 0;
            due.is("alike by " + text, two(text).alike(1), want ? 1 : 0);
            due.is("alike by " + text, two(text).alike(10), want ? 1 : 0);
        }
        due.is("names", two("d=2&a=5&b=12&h=0&m=9&e=4").alike(1), 1);
        TwoAlike hatted = two("d=1&a=5&b=13&h=1&m=9&e=4");
        due.is("without the hat", hatted.alike(1), 0);
        hatted.hat(0, 0);
        due.is("with the hat", hatted.alike(1), 1);
        due.is("precedence", two("1|0&0").alike(1), 1);
        due.is("left to right", two("9-4-3=2").alike(1), 1);
        due.is("toward 0", two("-7/2=-3&-7%3=-1").alike(1), 1);
        due.is("wraps", two("(9999*9999*30)<0").alike(1), 1);
        due.is("the least int by -1", two("2048*1024*1024/-1=2048*1024*1024").alike(1), 1);
        due.is("the least int by -1", two("2048*1024*1024%-1=0").alike(1), 1);
    }

    private static void lines() {
        due.is("first line with 0 is passed over", two("d>2?1;0").alike(1), 0);
        due.is("first line counts", two("d<3?1;0").alike(1), 1);
        due.is("first line gives 0", two("d<3?0;1").alike(1), 0);
        due.is("no line counts", two("d>2?1;d>3?1").alike(1), 0);
        due.is("plain line ahead", two("0;1").alike(1), 0);
        due.is("third line", two("0?1;0?1;b").alike(1), 1);
        TwoAlike x = two("1");
        due.is("a fault leaves the law", Due.lawOf(x, "0)"), -101);
        due.is("alike", x.alike(1), 1);
        due.is("a new law", Due.lawOf(x, "0"), 1);
        due.is("alike", x.alike(1), 0);
    }

    /** Promise 11. */
    private static void alike() {
        TwoAlike x = new TwoAlike();
        x.person(0, 1);
        x.person(1, 0);
        x.person(3, 0);
        int[] bad = {-1, -10, -12, 0, 11, 22, 3, 30, 13, 70, 100, 101, Integer.MIN_VALUE, Integer.MAX_VALUE};
        for (int pq : bad) due.is("alike " + pq, x.alike(pq), -1);
        due.is("alike", x.alike(1), 0);
        x.mend(0, 3, 1);
        due.is("alike", x.alike(1), 1);
        due.is("alike", x.alike(10), 1);
        due.is("alike", x.alike(2), 0);
        due.is("alike", x.alike(21), 1);
        x.hat(0, 0);
        due.is("alike", x.alike(2), 1);
        x.mend(0, 3, 0);
        due.is("alike", x.alike(1), 1);
        due.is("alike", x.alike(12), 0);
    }
}
