/** Promises 9 to 11 and the law's text at their edges. */
public final class LawBoundsTest {
    private static final Due due = new Due("LawBoundsTest");
    private static final String GREATEST = "9999*9999*21+9999*4790+8416", LEAST = "(-" + GREATEST.replace("+", "-") + "-1)";

    public static void main(String[] args) {
        feed();
        tapeIsFull();
        lawIsLed();
        faultsOfLines();
        faultsOfSigns();
        faultsOfNumbersAndNames();
        faultsOfWhatIsOpen();
        faultsOfComparisons();
        longTexts();
        numbersThatWrap();
        division();
        truths();
        linesThatCount();
        names();
        withoutText();
        alike();
        due.close();
    }

    private static void run(String name, Object... told) {
        Script.run(due, name, told);
    }

    private static void inRich(String name, Object... told) {
        Script.run(due, name, Script.RICH, Script.all(told));
    }

    /** Every text alone: the place of its fault, -1 for none; the tape is empty behind it. */
    private static void fault(String name, String text, int place) {
        run("10: " + name, "say '" + text + "' = " + (place < 0 ? 1 : -100 - place), "count(3) = 0");
    }

    /** Whether two are alike by a text: looks 12 and 5 (d 2, a 5, b 12), a hat 0, month 9, ease 4. */
    private static void alikeBy(String name, String text, int want) {
        run(name + ": " + text, "person(12, 1) = 0", "person(5, 0) = 1", "mend(0, 4, 9) = 0", "mend(0, 3, 4) = 0",
            "say '" + text + "'", "alike(1) = " + want, "alike(10) = " + want);
    }

    private static void feed() {
        inRich("9: too small", "feed(-1) ! BAD", "feed(MIN) ! BAD", "feed(-255) ! BAD");
        inRich("9: too great", "feed(256) ! BAD", "feed(MAX) ! BAD", "feed(356) ! BAD");
        run("9: the least byte", "feed(0) = 1", "count(3) = 1", "law() = -100");
        run("9: the greatest byte", "feed(255) = 1", "count(3) = 1", "law() = -100");
        run("9: a refused one does not come", "feed('d') = 1", "feed(256) ! BAD", "feed(-1) ! BAD", "law() = 1");
    }

    private static void tapeIsFull() {
        run("9: the last one comes, one more not", Script.each(1, 120, "feed('d') = #"), "feed('d') ! FULL",
            "count(3) = 120");
        run("9: BAD ahead of FULL", Script.times(120, "feed('1')"), "feed(256) ! BAD", "feed(-1) ! BAD",
            "feed(0) ! FULL", "feed(255) ! FULL");
        run("9: empty behind a law", Script.times(120, "feed('d')"), "law() = -101",
            Script.each(1, 120, "feed('1') = #"), "feed('1') ! FULL");
    }

    private static void lawIsLed() {
        run("10: an empty tape", "law() ! -100", "feed('1') = 1", "law() = 1", "law() ! -100", "person(0, 0)",
            "person(63, 0)", "alike(1) = 1");
        run("10: a fault leaves the law", "person(0, 0)", "person(63, 0)", "say '1'", "say '0)' = -101", "alike(1) = 1",
            "say '' = -100", "alike(1) = 1", "say '0'", "alike(1) = 0");
        run("10: a fault leaves no law too", "person(0, 0)", "person(63, 0)", "say '1)' = -101", "alike(1) = 0",
            "mend(0, 3, 6)", "alike(1) = 1");
        run("10: a fault empties the tape", "feed('1')", "feed(';')", "law() = -102", "count(3) = 0", "feed('0')",
            "law() = 1", "person(0, 0)", "person(0, 0)", "alike(1) = 0");
        run("10: what came behind a fault is gone", "say 'x1' = -100", "feed('0')", "law() = 1", "person(0, 0)",
            "person(0, 0)", "alike(1) = 0");
    }

    private static void faultsOfLines() {
        fault("no line", "", 0);
        fault("one line", "d", -1);
        fault("an empty line ahead", ";d", 0);
        fault("an empty line behind", "d;", 2);
        fault("an empty line between", "d;;d", 2);
        fault("two lines", "d;d", -1);
        fault("nothing ahead of ?", "?d", 0);
        fault("nothing behind ?", "d?", 2);
        fault("a line behind ? that lacks", "d?;d", 2);
        fault("one ?", "d?d", -1);
        fault("two ? in a line", "d?d?d", 3);
        fault("a ? in each line", "d?d;d?d", -1);
        fault("two ? in the second line", "d?d;d?d?d", 7);
        fault("? within brackets", "(d?d)", 2);
        fault("; within brackets", "(d;d)", 2);
        fault("most lines", "d;".repeat(59) + "d", -1);
        fault("most lines with ?", "d?d;".repeat(29) + "d?d", -1);
        fault("most lines, and an empty one", "d;".repeat(60), 120);
    }

    private static void faultsOfSigns() {
        for (char sign : "|&<=>+-*/%".toCharArray()) {
            fault("two around " + sign, "d" + sign + "a", -1);
            fault("nothing behind " + sign, "d" + sign, 2);
            fault("nothing within brackets behind " + sign, "(d" + sign + ")", 3);
            if (sign != '-') fault("nothing ahead of " + sign, sign + "d", 0);
            fault("! behind " + sign, "d" + sign + "!a", -1);
            fault("- behind " + sign, "d" + sign + "-a", -1);
            fault("( behind " + sign, "d" + sign + "(a)", -1);
            if (sign != '-') fault("two of " + sign, "d" + sign + sign + "a", 2);
        }
        fault("two of -", "d--a", -1);
        fault("! behind what is told", "d!", 1);
        fault("! ahead of =", "d!=a", 1);
        fault("<=", "d<=a", 2);
        fault("( behind what is told", "d(a)", 1);
        fault("nothing within brackets", "()", 1);
        fault("nothing is open", "d)", 1);
        fault("one is open still", "(d", 2);
        fault("one closed too often", "(d))", 3);
        fault("! alone", "!", 1);
        fault("- alone", "-", 1);
        fault("( alone", "(", 1);
    }

    private static void faultsOfNumbersAndNames() {
        fault("one digit", "7", -1);
        fault("four digits", "9999", -1);
        fault("four digits, all 0", "0000", -1);
        fault("five digits", "12345", 4);
        fault("five digits behind a sign", "d<12345", 6);
        fault("a digit behind a name", "d1", 1);
        fault("a name behind a digit", "1d", 1);
        fault("a number behind brackets", "(d)1", 3);
        fault("two names", "dd", 1);
        for (char name : "dabhme".toCharArray()) fault("the name " + name, "" + name, -1);
        for (int letter = 0; letter < 256; letter++) {
            boolean starts = "dabhme0123456789(!-".indexOf(letter) >= 0;
            boolean ends = "dabhme0123456789".indexOf(letter) >= 0;
            run("10: a byte " + letter, "feed(" + letter + ") = 1", "law() = " + (ends ? 1 : starts ? -101 : -100));
            boolean goesOn = "|&<=>+-*/%?;".indexOf(letter) >= 0;
            run("10: a byte " + letter + " behind d", "feed('d')", "feed(" + letter + ") = 2",
                "law() = " + (goesOn ? -102 : -101));
        }
        fault("a blank ahead", " d", 0);
        fault("a blank between", "d <1", 1);
        fault("a blank behind", "d ", 1);
    }

    private static void faultsOfWhatIsOpen() {
        fault("six (", "((((((d))))))", -1);
        fault("seven (", "(((((((d)))))))", 6);
        fault("six !", "!!!!!!d", -1);
        fault("seven !", "!!!!!!!d", 6);
        fault("six -", "------d", -1);
        fault("seven -", "-------d", 6);
        fault("a minus sign and six -", "d-------d", -1);
        fault("a minus sign and seven -", "d--------d", 8);
        fault("six of all sorts", "(!-(!-d))", -1);
        fault("a seventh, (", "(!-(!-(d)))", 6);
        fault("a seventh, !", "(!-(!-!d))", 6);
        fault("a seventh, -", "(!-(!--d))", 6);
        fault("six, and none of them closed", "((((((d", 7);
        fault("six, and nothing within", "((((((", 6);
        fault("closed ones are not open", "(((((d)))))+((((((d))))))", -1);
        fault("signs end with what they stand ahead of", "!!!!!!d+!!!!!!d", -1);
        fault("a sign ends with its brackets", "!(d)+!!!!!(d)", -1);
        fault("a sign ends with its brackets, one too many", "!(d)+!!!!!!(d)", 11);
        fault("signs within brackets end, too", "(!!!!!d+!!!!!d)", -1);
        fault("brackets stay open", "(!!!!!d+!!!!!!d)", 13);
        fault("behind ; all is closed", "!!!!!!d;((((((d))))))", -1);
        fault("behind ? all is closed", "!!!!!!d?((((((d))))))", -1);
        fault("behind ; seven (", "d;(((((((d)))))))", 8);
        fault("behind ? seven (", "d?(((((((d)))))))", 8);
        fault("behind ? seven !", "d?!!!!!!!d", 8);
        fault("ahead of ? seven -", "-------d?d", 6);
    }

    private static void faultsOfComparisons() {
        for (char first : "<=>".toCharArray()) {
            for (char second : "<=>".toCharArray()) fault("two in one, " + first + second, "a" + first + "b" + second + "d", 3);
        }
        fault("one to each side of &", "a<b&b<d", -1);
        fault("one to each side of |", "a<b|b=d", -1);
        fault("one to each side of ?", "a<b?b>d", -1);
        fault("one in each line", "a<b;b>d", -1);
        fault("one of brackets", "(a<b)<d", -1);
        fault("one with brackets", "a<(b<d)", -1);
        fault("two within brackets", "(a<b<d)", 4);
        fault("two around brackets", "a<(b=d)>e", 7);
        fault("sums to both sides", "a+b<b+d", -1);
        fault("two around a sum", "a<b+d<e", 5);
    }

    private static void longTexts() {
        fault("120 bytes", "1+".repeat(59) + "12", -1);
        fault("120 bytes, and it ends too early", "1+".repeat(60), 120);
        fault("120 bytes, and the last one is a fault", "1+".repeat(59) + "1)", 119);
        fault("119 bytes", "1+".repeat(59) + "1", -1);
        run("10: the last step of the longest text counts", "person(0, 0)", "person(0, 0)",
            "say '" + "1-".repeat(58) + "1+57'", "alike(1) = 0", "say '" + "1-".repeat(58) + "1+56'", "alike(1) = 1");
        run("10: as many operands as fit", "person(0, 0)", "person(0, 0)", "say '" + "0|".repeat(59) + "1'",
            "alike(1) = 1", "say '" + "0|".repeat(59) + "0'", "alike(1) = 0");
        run("10: the last of most lines", "person(0, 0)", "person(0, 0)", "say '" + "0?1;".repeat(29) + "1'",
            "alike(1) = 1", "say '" + "0?1;".repeat(29) + "0?1'", "alike(1) = 0");
    }

    private static void numbersThatWrap() {
        alikeBy("2: the greatest int", GREATEST + ">0", 1);
        alikeBy("2: one more wraps", GREATEST + "+1<0", 1);
        alikeBy("2: the least int", LEAST + "<0", 1);
        alikeBy("2: one less wraps", LEAST + "-1>0", 1);
        alikeBy("2: one less wraps", LEAST + "-1=" + GREATEST, 1);
        alikeBy("2: a product wraps", "9999*9999*9999=-9999*9999*10-9999*2755-2714", 1);
        alikeBy("2: a product wraps to 0", "4096*4096*256", 0);
        alikeBy("2: a product just does not", "4096*4096*64>0", 1);
        alikeBy("2: a product just does", "4096*4096*128<0", 1);
        alikeBy("2: the least int turned", "-" + LEAST + "=" + LEAST, 1);
        alikeBy("2: the least int by -1", "4096*4096*128/-1=4096*4096*128", 1);
        alikeBy("2: the least int by -1", "4096*4096*128%-1=0", 1);
    }

    private static void division() {
        alikeBy("2: by 0", "7/0=0", 1);
        alikeBy("2: 0 by 0", "0/0=0", 1);
        alikeBy("2: by 0, the rest", "7%0=0", 1);
        alikeBy("2: 0 by 0, the rest", "0%0=0", 1);
        alikeBy("2: less than 0 by 0", "-7/0=0&-7%0=0", 1);
        alikeBy("2: by what comes to 0", "7/(5-5)=0&7%(5-5)=0", 1);
        alikeBy("2: toward 0", "7/2=3", 1);
        alikeBy("2: toward 0 from below", "-7/2=-3", 1);
        alikeBy("2: toward 0 by less than 0", "7/-2=-3", 1);
        alikeBy("2: toward 0, both below", "-7/-2=3", 1);
        alikeBy("2: the rest of less than 0", "-7%3=-1", 1);
        alikeBy("2: the rest by less than 0", "7%-3=1", 1);
        alikeBy("2: the rest, both below", "-7%-3=-1", 1);
        alikeBy("2: just below 1", "1/2=0&-1/2=0", 1);
        alikeBy("2: from the left", "24/4/3=2&24%7%2=1&24/4*3=18", 1);
        alikeBy("2: from the left", "9-4-3=2&9-4+3=8", 1);
    }

    private static void truths() {
        String[] holding = {"(0|0)=0", "(0|5)=1", "(-5|0)=1", "(0&5)=0", "(5&0)=0", "(5&7)=1", "(2<3)=1", "(3<3)=0",
            "(4<3)=0", "(2=3)=0", "(3=3)=1", "(2>3)=0", "(3>3)=0", "(4>3)=1", "!0=1", "!1=0", "!5=0", "!-1=0", "!!5=1",
            "-(2<3)=-1", "5=5", "(5)=5", "-5<-4"};
        for (String so : holding) {
            alikeBy("2: gives 1, 0", so, 1);
        }
        alikeBy("2: not 0 is alike", "2", 1);
        alikeBy("2: less than 0 is alike", "-1", 1);
        alikeBy("2: 0 is not", "0", 0);
        alikeBy("2: all is worked out", "1|1/0", 1);
        alikeBy("2: all is worked out", "0&1/0", 0);
        alikeBy("2: & ahead of |", "1|0&0", 1);
        alikeBy("2: < ahead of &", "3&2<3", 1);
        alikeBy("2: + ahead of <", "1<0+2", 1);
        alikeBy("2: * ahead of +", "1+1*0", 1);
        alikeBy("2: ! ahead of *", "!0*5=5", 1);
    }

    private static void linesThatCount() {
        alikeBy("2: one line without a first E", "1", 1);
        alikeBy("2: a first E of 0", "0?1", 0);
        alikeBy("2: a first E of 1", "1?1", 1);
        alikeBy("2: a first E below 0", "-1?1", 1);
        alikeBy("2: a first E that is great", "9999?1", 1);
        alikeBy("2: what counts gives 0", "1?0;1", 0);
        alikeBy("2: a line without a first E ends it", "0;1", 0);
        alikeBy("2: the second line", "0?0;1", 1);
        alikeBy("2: the second line with a first E", "0?0;2?1;0", 1);
        alikeBy("2: the third line", "0?1;0?1;1", 1);
        alikeBy("2: none", "0?1;0?1;0?1", 0);
    }

    private static void names() {
        for (int e = 0; e <= 6; e += 6) {
            run("2: e " + e, "person(0, 0)", "person(0, 0)", "mend(0, 3, " + e + ")", "say 'e=" + e + "'",
                "alike(1) = 1");
        }
        for (int m = 0; m <= 11; m += 11) {
            run("2: m " + m, "person(0, 0)", "person(0, 0)", "mend(0, 4, " + m + ")", "say 'm=" + m + "'",
                "alike(1) = 1");
        }
        run("2: d 0", "person(63, 0)", "person(63, 0)", "say 'd=0'", "alike(1) = 1");
        run("2: d 6", "person(63, 0)", "person(0, 0)", "say 'd=6'", "alike(1) = 1");
        run("2: a and b, least and greatest", "person(63, 0)", "person(0, 0)", "say 'a=0&b=63'", "alike(1) = 1",
            "alike(10) = 1");
        run("2: a and b, the same", "person(9, 0)", "person(9, 0)", "say 'a=9&b=9'", "alike(1) = 1");
        run("2: h 0, 1, 2", "person(1, 1)", "person(2, 1)", "say 'h=0'", "alike(1) = 1", "hat(0, 0)", "say 'h=1'",
            "alike(1) = 1", "hat(1, 0)", "say 'h=2'", "alike(1) = 1", "hat(0, -1)", "alike(1) = 0", "say 'h=1'",
            "alike(1) = 1");
        run("2: looks as they are seen", "person(1, 1)", "person(2, 4)", "hat(0, 0)", "hat(1, 2)", "say 'a=0&b=6&d=2'",
            "alike(1) = 1");
        run("2: by numbers, none of anybody's place", "person(9, 0)", "person(3, 0)", "say 'a=3&b=9'", "alike(1) = 1",
            "alike(10) = 1");
    }

    private static void withoutText() {
        for (int ease = 0; ease <= 6; ease++) {
            int all = (1 << ease) - 1;
            run("2: without a text, ease " + ease, "mend(0, 3, " + ease + ")", "person(0, 0)", "person(" + all + ", 0)",
                "person(" + Math.min(63, all * 2 + 1) + ", 0)", "alike(1) ! 1", "alike(2) ! " + (ease == 6 ? 1 : 0));
        }
        run("2: ease does not count once a text came", "person(0, 0)", "person(63, 0)", "mend(0, 3, 6)", "alike(1) = 1",
            "say 'd<6'", "alike(1) = 0");
    }

    private static void alike() {
        inRich("11: one and the same", Script.each(0, 2, "alike(##) ! BAD"));
        inRich("11: nobody", "alike(3) ! BAD", "alike(30) ! BAD", "alike(13) ! BAD", "alike(31) ! BAD",
            "alike(9) ! BAD", "alike(90) ! BAD");
        inRich("11: no two", "alike(-1) ! BAD", "alike(-10) ! BAD", "alike(-12) ! BAD", "alike(100) ! BAD",
            "alike(101) ! BAD", "alike(112) ! BAD", "alike(MIN) ! BAD", "alike(MAX) ! BAD");
        run("11: the first and the last two", Script.each(0, 6, "person(#, 0) = #"), "alike(1) ! 0", "alike(10) ! 0",
            "alike(56) ! 0", "alike(65) ! 0", "alike(6) ! 0", "alike(60) ! 0", "alike(67) ! BAD", "alike(76) ! BAD",
            "alike(77) ! BAD", "alike(66) ! BAD");
        run("11: one alone", "person(0, 0)", "alike(0) ! BAD", "alike(1) ! BAD", "alike(10) ! BAD");
        run("11: just alike, just not", "person(0, 0)", "person(7, 0)", "mend(0, 3, 3)", "alike(1) ! 1",
            "mend(0, 3, 2)", "alike(1) ! 0");
    }
}
