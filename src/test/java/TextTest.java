/** Promises 12 to 15: feed, end, story, rule. */
public final class TextTest {
    private static final Due DUE = new Due();

    public static void main(String[] args) {
        tape();
        tenTexts();
        goodTexts();
        cannotStand();
        wrongNumbers();
        tooDeep();
        tooManyParts();
        tooManyClauses();
        ruleFaults();
        leastOfOnePlace();
        DUE.finish();
    }

    private static void tape() {
        Used x = new Used();
        for (int n = 1; n <= 20; n++) {
            DUE.due("feed", x.feed(-1, 0, 1, 2, 3), n * 20);
        }
        DUE.due("421 bytes", x.feed(0, 0, 0, 0, 0), -1);
        DUE.due("400 stay", x.count(12), 400);
        DUE.due("end -1", x.end(-1), -1);
        DUE.due("end 401", x.end(401), -1);
        DUE.due("end 400", x.end(400), 400);
        DUE.due("end 381", x.end(381), 381);
        DUE.due("401 bytes", x.feed(0, 0, 0, 0, 0), -1);
        DUE.due("end 382", x.end(382), -1);
        DUE.due("end 380", x.end(380), 380);
        DUE.due("400 bytes", x.feed(0, 0, 0, 0, 0), 400);
        DUE.due("byte 255 at the beginning", x.story(), Due.fault(0, 0));
        DUE.due("empty then", x.count(12), 0);
        x.feed('p' << 24 | 'r' << 16 | 'i' << 8 | 'o', 'r' << 24 | ' ' << 16 | '7' << 8 | ' ', 0x20202020, 0x20202020,
                0x20202020);
        DUE.due("the highest byte first", x.story(), 0);
        DUE.due("empty then, too", x.count(12), 0);
    }

    private static void tenTexts() {
        Used x = new Used();
        for (int n = 0; n < 10; n++) {
            DUE.due("a fault takes no number", x.story("prior"), Due.fault(5, 0));
            DUE.due("a story", x.story("prior 1"), n);
            DUE.due("a rule", x.rule("must 1 every 1"), n);
        }
        DUE.due("an eleventh story", x.story("prior 1"), -1);
        DUE.due("nothing happens", x.count(12), 7);
        DUE.due("an eleventh with a fault", x.story("?"), -1);
        DUE.due("an eleventh rule", x.rule("must 1 every 1"), -1);
        DUE.due("nothing happens", x.count(12), 14);
        DUE.due("ten stories", x.count(9), 10);
        DUE.due("ten rules", x.count(10), 10);
    }

    private static void good(String text, boolean asRule) {
        Used x = new Used();
        DUE.due(text, asRule ? x.rule(text) : x.story(text), 0);
    }

    private static void goodTexts() {
        good("prior 1", false);
        good("prior9999;when 1=1;traceP1000", false);
        good("  prior   00001  ;  when   hour+depth-gas<air  ;trace A 0 if 1<=2  ", false);
        good("when not not not not not not not not not not 1=1", false);
        good("when [[[[[[[[[[1=1]]]]]]]]]]and[1=1]or not 1=1", false);
        good("when hour=1 and depth<2 or gas<=3 and air>=4 or filled>5", false);
        good("when layers+load-bears+steel-drawn+built-ring+burst>99999", false);
        good("trace A1000if not[1=1]", false);
        good("when 1=1;when 1=1;when 1=1;when 1=1;when 1=1;when 1=1;when 1=1;"
                + "when 1=1;when 1=1;when 1=1;when 1=1;when 1=1;when 1=1;prior 1", false);
        good("when 1" + "+1".repeat(57) + "=1", false);
        good("must 0 every 1;must 9 every 9999 if hour>1", true);
        good("must9every9999if hour>1", true);
        good("must 0 every 1" + " ".repeat(386), true);
    }

    private static void bad(String text, int place, int why) {
        DUE.due(text, new Used().story(text), Due.fault(place, why));
    }

    private static void badRule(String text, int place, int why) {
        DUE.due(text, new Used().rule(text), Due.fault(place, why));
    }

    private static void cannotStand() {
        bad("", 0, 0);
        bad("   ", 3, 0);
        bad("Prior 1", 0, 0);
        bad("prio 1", 0, 0);
        bad("priors 1", 0, 0);
        bad("prior 1;", 8, 0);
        bad("prior 1; ", 9, 0);
        bad(";prior 1", 0, 0);
        bad("prior 1 if 1=1", 8, 0);
        bad("prior 1 prior 2", 8, 0);
        bad("prior -1", 6, 0);
        bad("prior\t1", 5, 0);
        bad("trace q 1", 6, 0);
        bad("trace AB 1", 7, 0);
        bad("trace A 1 and 1=1", 10, 0);
        bad("trace A 1 if", 12, 0);
        bad("when 1", 6, 0);
        bad("when 1 and", 7, 0);
        bad("when 1=", 7, 0);
        bad("when 1=1=1", 8, 0);
        bad("when 1= =1", 8, 0);
        bad("when 1< =1", 8, 0);
        bad("when 1<==1", 8, 0);
        bad("when 1=>1", 7, 0);
        bad("when 1+=1", 7, 0);
        bad("when +1=1", 5, 0);
        bad("when 1=not 1", 7, 0);
        bad("when 1=[1", 7, 0);
        bad("when [1]=1", 7, 0);
        bad("when [1=1", 9, 0);
        bad("when [1=1;", 9, 0);
        bad("when 1=1]", 8, 0);
        bad("when []", 6, 0);
        bad("when 1=1 or", 11, 0);
        bad("when 1=1 and and", 13, 0);
        bad("when 1=1 not 1=1", 9, 0);
        bad("when 1=1 nor 1=1", 9, 0);
        bad("when 1=1and1=1or2", 17, 0);
        bad("when hours=1", 5, 0);
        bad("when hourz=1", 5, 0);
        bad("when ahour=1", 5, 0);
        bad("trace @ 1", 6, 0);
        bad("when 1<", 7, 0);
        bad("when hour1=1", 9, 0);
        bad("when 1hour=1", 6, 0);
        bad("when not", 8, 0);
        bad("when every=1", 5, 0);
        bad("when 1=\u00e91", 7, 0);
        bad("must 1 every 1", 0, 0);
        bad("prior " + " ".repeat(394), 400, 0);
    }

    private static void wrongNumbers() {
        bad("prior 10000", 6, 1);
        bad("prior 000001", 6, 1);
        bad("prior 0", 6, 1);
        bad("trace A 1001", 8, 1);
        bad("trace A 000000", 8, 1);
        bad("when 100000=1", 5, 1);
        bad("when 1=000000", 7, 1);
        bad("when 1=4294967297", 7, 1);
        bad("when 1=1 123456", 9, 0);
    }

    private static void tooDeep() {
        bad("when " + "[".repeat(11) + "1=1", 15, 2);
        bad("when " + "not ".repeat(11) + "1=1", 45, 2);
        bad("when " + "not[".repeat(5) + "not 1=1", 25, 2);
        bad("when " + "not[".repeat(5) + "[1=1", 25, 2);
        bad("when " + "[".repeat(10) + "1=1 and not 1=1", 23, 2);
        bad("when " + "[".repeat(9) + "not 1=1 and [1=1] or [not 1=1", 9 + 5 + 22, 2);
        good("when " + "[".repeat(9) + "not 1=1 and [1=1] or not 1=1" + "]".repeat(9), false);
    }

    private static void tooManyParts() {
        // 20 comparisons are 60 parts
        String twenty = "when 1=1" + " or 1=1".repeat(19);
        good(twenty, false);
        bad(twenty + " or 1=1", twenty.length() + 4, 3);
        bad(twenty + ";trace A 1 if 1=1", twenty.length() + 14, 3);
        good(twenty + ";trace A 1;prior 3", false);
        // 59 values and a sign are 60: one more value is too many, at its own place
        bad("when 1" + "+1".repeat(57) + "=1+1", 5 + 1 + 2 * 57 + 3, 3);
        // 60 values: the sign is too many
        bad("when 1" + "+1".repeat(59) + "=1", 5 + 1 + 2 * 59, 3);
        bad("when 1" + "+1".repeat(60) + "=1", 5 + 2 * 60, 3);
        badRule("must 1 every 1 if 1" + "+1".repeat(60), 18 + 2 * 60, 3);
    }

    private static void tooManyClauses() {
        String fourteen = "prior 1;" + "when 1=1;".repeat(13);
        bad(fourteen, fourteen.length(), 0);
        bad(fourteen + " when 1=1", fourteen.length() + 1, 4);
        bad(fourteen + "when", fourteen.length(), 4);
        bad(fourteen + "must 1", fourteen.length(), 0);
        bad(fourteen + "?", fourteen.length(), 0);
        bad("prior 1;prior", 8, 4);
        bad("prior 1;when 1=1; prior 0", 18, 4);
        String rule = "must 1 every 1;".repeat(14);
        badRule(rule + "must", rule.length(), 4);
        badRule(rule + "prior 1", rule.length(), 0);
        good(rule.substring(0, rule.length() - 1), true);
    }

    private static void ruleFaults() {
        badRule("prior 1", 0, 0);
        badRule("must 10 every 1", 5, 1);
        badRule("must 1 every 10000", 13, 1);
        badRule("must 1 every 0", 13, 1);
        badRule("must 1", 6, 0);
        badRule("must every 1", 5, 0);
        badRule("must 1 every", 12, 0);
        badRule("must 1 if 1=1", 7, 0);
        badRule("must 1 every 1 when 1=1", 15, 0);
        badRule("must 1 every 1 if", 17, 0);
    }

    private static void leastOfOnePlace() {
        String sixty = "when 1" + "+1".repeat(59);
        bad(sixty + "+x", sixty.length() + 1, 0);
        bad(sixty + "+123456", sixty.length() + 1, 1);
        bad(sixty + "+1", sixty.length() + 1, 3);
        bad(sixty + "?", sixty.length(), 0);
        bad("when " + "[".repeat(10) + "]", 15, 0);
    }
}
