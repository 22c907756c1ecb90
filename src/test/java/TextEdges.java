import java.util.ArrayList;
import java.util.List;
import java.util.function.Supplier;

/** Boundary sentences of promises 12 to 15: feed, end, story, rule. */
final class TextEdges extends Edges {
    private static final int CANNOT_STAND = 0;
    private static final int WRONG_NUMBER = 1;
    private static final int TOO_DEEP = 2;
    private static final int TOO_MANY_PARTS = 3;
    private static final int TOO_MANY_CLAUSES = 4;

    private static final String[] VALUE_WORDS = {"hour", "depth", "gas", "air", "filled", "layers", "load", "bears",
        "steel", "drawn", "built", "ring", "burst"};

    /** Twenty comparisons: the sixty values and facts that may be. */
    private static final String SIXTY = "1=1" + " or 1=1".repeat(19);

    TextEdges(Words words) {
        super(words);
    }

    private static int fault(int place, int why) {
        return 1 + 8 * place + why;
    }

    private void good(String story) {
        Used x = new Used();
        due(story, x.story(story), 0);
    }

    private void goodRule(String rule) {
        Used x = new Used();
        due(rule, x.rule(rule), 0);
    }

    /** A story with a fault at the sign ^, which is not of the text. */
    private void bad(String story, int why) {
        Used x = new Used();
        due(story, x.story(story.replace("^", "")), -2 - fault(story.indexOf('^'), why));
    }

    private void badRule(String rule, int why) {
        Used x = new Used();
        due(rule, x.rule(rule.replace("^", "")), -2 - fault(rule.indexOf('^'), why));
    }

    private static Supplier<Used> tapeOf(int bytes) {
        return () -> {
            Used x = new Used();
            for (int n = 0; n < 20; n++) {
                x.feed(1, 2, 3, 4, 5);
            }
            x.end(bytes);
            return x;
        };
    }

    // Promise 12: feed

    void p12TwentyBytes() {
        says("Twenty bytes come behind the TAPE,", ": how many it has;");
        Used x = new Used();
        for (int n = 1; n <= 20; n++) {
            due("feed " + n, x.feed(0, 0, 0, 0, 0), 20 * n);
        }
        due("count", x.count(12), 400);
    }

    void p12HighestFirst() {
        says("of each number the highest first");
        Used x = new Used();
        // "prio" "r 7;" "when" " 1=1" "    "
        x.feed(0x7072696f, 0x7220373b, 0x7768656e, 0x20313d31, 0x20202020);
        due("the text", x.story(), 0);
        x.begin(1, 1, 0, 0, 1);
        Scenes.strongRing(x, 1);
        due("its prior", x.weight(0, 0), 7000000);
    }

    void p12NumbersBelowZero() {
        says("of each number the highest first");
        Used x = new Used();
        // the bytes 255 and 160 are none of the language's, the byte 160 is no blank
        x.feed(0x7072696f, 0x722037ff, 0, 0, 0);
        due("byte 255 at 7", x.story(), -2 - fault(7, CANNOT_STAND));
        x.feed(0xa0707269, 0, 0, 0, 0);
        due("byte 160 at 0", x.story(), -2 - fault(0, CANNOT_STAND));
        x.feed(0x20707269, 0x6f722037, 0xb1202020, 0x20202020, 0x20202020);
        due("byte 177 is not the digit 1", x.story(), -2 - fault(8, CANNOT_STAND));
        due("numbers below 0 are bytes, too", x.feed(-1, Integer.MIN_VALUE, -2, -3, -4), 20);
    }

    void p12Full() {
        says("NONE, and none comes, if it would have more than 400.");
        refused(tapeOf(400), "420 bytes", x -> x.feed(9, 9, 9, 9, 9), -1);
        refused(tapeOf(381), "401 bytes", x -> x.feed(9, 9, 9, 9, 9), -1);
        due("400 bytes", tapeOf(380).get().feed(9, 9, 9, 9, 9), 400);
    }

    void p12NoneComes() {
        says("NONE, and none comes, if it would have more than 400.");
        Used x = new Used();
        String text = "prior 5" + " ".repeat(375);
        x.tape(text);
        due("402 bytes", x.feed(0x3f3f3f3f, 0x3f3f3f3f, 0x3f3f3f3f, 0x3f3f3f3f, 0x3f3f3f3f), -1);
        due("bytes", x.count(12), 382);
        due("the text as it was", x.story(), 0);
    }

    // Promise 13: end

    void p13NotSoMany() {
        says("NONE, and nothing happens, if it has not so many,");
        due("all", tapeOf(60).get().end(60), 60);
        due("all of a full one", tapeOf(400).get().end(400), 400);
        for (int n : new int[] {61, 400, Integer.MAX_VALUE}) {
            refused(tapeOf(60), "end " + n, x -> x.end(n), -1);
        }
        refused(tapeOf(400), "one more than a full one has", x -> x.end(401), -1);
    }

    void p13BelowZero() {
        says("NONE, and nothing happens, if it has not so many, or n is below 0.");
        due("none", tapeOf(60).get().end(0), 0);
        for (int n : new int[] {-1, -60, Integer.MIN_VALUE}) {
            refused(tapeOf(60), "end " + n, x -> x.end(n), -1);
        }
    }

    void p13EmptyTape() {
        says("if it has not so many");
        due("none of none", new Used().end(0), 0);
        refused(Used::new, "one of none", x -> x.end(1), -1);
    }

    void p13TheFirstAlone() {
        says("The TAPE has its first n bytes alone: n;");
        Used x = new Used();
        x.tape("prior 12345 and more");
        due("cut", x.end(7), 7);
        due("so many", x.count(12), 7);
        due("no way back", x.end(8), -1);
        x.feed(0x32202020, 0x20202020, 0x20202020, 0x20202020, 0x20202020);
        due("prior 12", x.story(), 0);
        x.begin(1, 1, 0, 0, 1);
        Scenes.strongRing(x, 1);
        due("its prior", x.weight(0, 0), 12000000);
    }

    // Promise 14: story

    void p14ItsNumber() {
        says("The TAPE, which is empty then, is a STORY: its number;", "STORIES 0 to 9 and RULES 0 to 9:");
        Used x = new Used();
        for (int n = 0; n < 10; n++) {
            due("story", x.story("prior 1"), n);
            due("empty then", x.count(12), 0);
            due("stories", x.count(9), n + 1);
        }
        due("no rule", x.count(10), 0);
    }

    void p14ItsFault() {
        says("-2 - its FAULT;", "The TAPE, which is empty then,");
        Used x = new Used();
        due("a fault", x.story("prior 1;?"), -2 - fault(8, CANNOT_STAND));
        due("empty then, too", x.count(12), 0);
        due("no story", x.count(9), 0);
        due("the next one is the first", x.story("prior 1"), 0);
    }

    private static Used tenStories() {
        Used x = new Used();
        for (int n = 0; n < 10; n++) {
            x.story("prior 1");
        }
        return x;
    }

    void p14ThereAreTen() {
        says("NONE, and nothing happens: there are 10.");
        refused(() -> {
            Used x = tenStories();
            x.tape("prior 2");
            return x;
        }, "an eleventh", Used::story, -1);
        refused(() -> {
            Used x = tenStories();
            x.tape("?");
            return x;
        }, "an eleventh with a fault", Used::story, -1);
        refused(TextEdges::tenStories, "an eleventh without a byte", Used::story, -1);
        Used x = tenStories();
        x.tape("must 1 every 1");
        due("refused as a story", x.story(), -1);
        due("it is a rule then", x.rule(), 0);
    }

    void p14MostBytes() {
        says("texts of at most 400 bytes.");
        good("prior 9" + " ".repeat(393));
        good(" ".repeat(393) + "prior 9");
        good(" ".repeat(392) + "when 1=1");
        bad(" ".repeat(395) + "prior^", CANNOT_STAND);
        bad(" ".repeat(393) + "when 1<^", CANNOT_STAND);
        bad(" ".repeat(393) + "when 1>^", CANNOT_STAND);
        bad("prior" + " ".repeat(395) + "^", CANNOT_STAND);
        bad("prior 9" + " ".repeat(392) + "^9", CANNOT_STAND);
    }

    void p14NoBytes() {
        says("CLAUSE { ; CLAUSE }, 14 at most.", "or the end (behind the last byte);");
        bad("^", CANNOT_STAND);
        bad("    ^", CANNOT_STAND);
        bad("^;", CANNOT_STAND);
        bad("prior 1;^", CANNOT_STAND);
        bad("prior 1; ^", CANNOT_STAND);
        bad("prior 1;^;when 1=1", CANNOT_STAND);
    }

    void p14FourteenClauses() {
        says("CLAUSE { ; CLAUSE }, 14 at most.", "4 a fifteenth CLAUSE,", "(at its first byte).");
        String thirteen = "trace A 1;".repeat(13);
        good(thirteen + "prior 1");
        bad(thirteen + "prior 1;^when 1=1", TOO_MANY_CLAUSES);
        bad(thirteen + "prior 1; ^trace A 1", TOO_MANY_CLAUSES);
        bad(thirteen + "when 1=1;^prior 1", TOO_MANY_CLAUSES);
        bad(thirteen + "when 1=1;^prior", TOO_MANY_CLAUSES);
        bad(thirteen + "when 1=1;^when 1=1;trace A 1", TOO_MANY_CLAUSES);
    }

    void p14FifteenthThatIsNone() {
        says("4 a fifteenth CLAUSE,", "Of one place the least.");
        String fourteen = "trace A 1;".repeat(14);
        bad(fourteen + "^", CANNOT_STAND);
        bad(fourteen + "^?", CANNOT_STAND);
        bad(fourteen + "^must 1 every 1", CANNOT_STAND);
        bad(fourteen + "^if 1=1", CANNOT_STAND);
        bad(fourteen + "^7", CANNOT_STAND);
    }

    void p14Prior() {
        says("Of a STORY: prior NUMBER (1 to 9999)", "1 a NUMBER of more digits, or not as told;");
        good("prior 1");
        good("prior 9999");
        good("prior 09999");
        bad("prior ^0", WRONG_NUMBER);
        bad("prior ^00000", WRONG_NUMBER);
        bad("prior ^10000", WRONG_NUMBER);
        bad("prior ^99999", WRONG_NUMBER);
        bad("prior ^000001", WRONG_NUMBER);
        bad("prior ^-1", CANNOT_STAND);
        bad("prior ^hour", CANNOT_STAND);
        bad("prior^", CANNOT_STAND);
    }

    void p14PriorOnce() {
        says("prior once at most", "or a second prior (at its first byte).");
        bad("prior 1;^prior 1", TOO_MANY_CLAUSES);
        bad("prior 1; when 1=1; ^prior 0", TOO_MANY_CLAUSES);
        bad("prior 1;^prior", TOO_MANY_CLAUSES);
        bad("prior 1;^priors 2", CANNOT_STAND);
    }

    void p14When() {
        says("| when TEST |");
        good("when 1=1");
        good("when 1=1;when 1=2");
        bad("when^", CANNOT_STAND);
        bad("when^;prior 1", CANNOT_STAND);
        bad("when 1=1 ^if 1=1", CANNOT_STAND);
    }

    void p14TraceChance() {
        says("trace TRACE NUMBER (0 to 1000)", "1 a NUMBER of more digits, or not as told;");
        good("trace A 0");
        good("trace A 1000");
        good("trace A 00000");
        bad("trace A ^1001", WRONG_NUMBER);
        bad("trace A ^99999", WRONG_NUMBER);
        bad("trace A ^000000", WRONG_NUMBER);
        bad("trace A ^-1", CANNOT_STAND);
        bad("trace A^", CANNOT_STAND);
        bad("trace A^;prior 1", CANNOT_STAND);
    }

    void p14TraceLetter() {
        says("TRACE: a capital letter A to P.");
        good("trace A 1");
        good("trace P 1");
        bad("trace ^@ 1", CANNOT_STAND);
        bad("trace ^Q 1", CANNOT_STAND);
        bad("trace ^a 1", CANNOT_STAND);
        bad("trace ^p 1", CANNOT_STAND);
        bad("trace ^1", CANNOT_STAND);
        bad("trace A^A 1", CANNOT_STAND);
        bad("trace^", CANNOT_STAND);
    }

    void p14IfTest() {
        says("[ if TEST ].");
        good("trace A 1");
        good("trace A 1 if 1=1");
        bad("trace A 1 if^", CANNOT_STAND);
        bad("trace A 1 if ^;prior 1", CANNOT_STAND);
        bad("trace A 1 if 1=1 ^if 1=1", CANNOT_STAND);
        bad("trace A 1 ^1=1", CANNOT_STAND);
        bad("trace A 1 ^[if 1=1]", CANNOT_STAND);
        bad("prior 1 ^if 1=1", CANNOT_STAND);
    }

    void p14Test() {
        says("TEST: PART { or PART }.", "PART: FACT { and FACT }.");
        good("when 1=1 or 1=2 or 1=3");
        good("when 1=1 and 1=2 and 1=3 or 1=4");
        bad("when 1=1 or^", CANNOT_STAND);
        bad("when 1=1 and^", CANNOT_STAND);
        bad("when ^or 1=1", CANNOT_STAND);
        bad("when 1=1 or ^or 1=1", CANNOT_STAND);
        bad("when 1=1 and ^or 1=1", CANNOT_STAND);
        bad("when 1=1 ^1=1", CANNOT_STAND);
        bad("when 1=1 ^not 1=1", CANNOT_STAND);
        bad("when 1=1 ^andy 1=1", CANNOT_STAND);
    }

    void p14Fact() {
        says("FACT: not FACT | [ TEST ] (these brackets are signs) | SUM SIGN SUM,");
        good("when not 1=1");
        good("when not not [not 1=1]");
        good("when[1=1]");
        bad("when not^", CANNOT_STAND);
        bad("when not ^and 1=1", CANNOT_STAND);
        bad("when [^]", CANNOT_STAND);
        bad("when [1=1^", CANNOT_STAND);
        bad("when [1=1^;prior 1", CANNOT_STAND);
        bad("when 1=1^]", CANNOT_STAND);
        bad("when [1=1]^]", CANNOT_STAND);
        bad("when [1^]=1", CANNOT_STAND);
        bad("when ^(1=1)", CANNOT_STAND);
        bad("when 1=^[1=1]", CANNOT_STAND);
    }

    void p14Sign() {
        says("SIGN one of < <= = >= >.");
        for (String sign : new String[] {"<", "<=", "=", ">=", ">"}) {
            good("when 1" + sign + "1");
        }
        bad("when 1^", CANNOT_STAND);
        bad("when 1 ^and 1=1", CANNOT_STAND);
        bad("when 1=^=1", CANNOT_STAND);
        bad("when 1=^<1", CANNOT_STAND);
        bad("when 1=^>1", CANNOT_STAND);
        bad("when 1<^>1", CANNOT_STAND);
        bad("when 1<=^=1", CANNOT_STAND);
        bad("when 1>=^=1", CANNOT_STAND);
        bad("when 1<^<1", CANNOT_STAND);
        bad("when 1^!=1", CANNOT_STAND);
        bad("when 1=1^=1", CANNOT_STAND);
        bad("when 1<^", CANNOT_STAND);
        bad("when 1<=^", CANNOT_STAND);
    }

    void p14Sum() {
        says("SUM: VALUE { (+ or -) VALUE }.");
        good("when 1+2-3=4-5+6");
        bad("when ^+1=1", CANNOT_STAND);
        bad("when ^-1=1", CANNOT_STAND);
        bad("when 1+^=1", CANNOT_STAND);
        bad("when 1=1+^", CANNOT_STAND);
        bad("when 1=1- ^and 1=1", CANNOT_STAND);
        bad("when 1+^-1=1", CANNOT_STAND);
        bad("when 1^*1=1", CANNOT_STAND);
        bad("when 1 ^1=1", CANNOT_STAND);
        bad("when 1=^-1", CANNOT_STAND);
    }

    void p14Digits() {
        says("VALUE: NUMBER (1 to 5 digits, as far as digits go on) | WORD.",
                "1 a NUMBER of more digits, or not as told;");
        good("when 0=99999");
        good("when 00000=00001");
        bad("when ^100000=1", WRONG_NUMBER);
        bad("when ^000000=1", WRONG_NUMBER);
        bad("when 1=^4294967296", WRONG_NUMBER);
        bad("when 1=^" + "9".repeat(300), WRONG_NUMBER);
        bad("when 1=1;trace A 1 if 1<^123456", WRONG_NUMBER);
        bad("when 1=1 ^234567", CANNOT_STAND);
        bad("when 12345 ^6=1", CANNOT_STAND);
    }

    void p14Words() {
        says("WORDS (small letters, as far as these go on)", "0 a byte or WORD that can't stand there,");
        good("when hour+depth+gas+air+filled+layers+load+bears+steel+drawn+built+ring+burst=0");
        good("when1=1and2=2or3=3");
        bad("when ^hours=1", CANNOT_STAND);
        bad("when ^hou=1", CANNOT_STAND);
        bad("when ^hourand=1", CANNOT_STAND);
        bad("when ^hourz=1", CANNOT_STAND);
        bad("when ^ahour=1", CANNOT_STAND);
        bad("when ^Hour=1", CANNOT_STAND);
        bad("when hour^S=1", CANNOT_STAND);
        bad("when hour^1=1", CANNOT_STAND);
        bad("when 1^hour=1", CANNOT_STAND);
        bad("when ^prior=1", CANNOT_STAND);
        bad("when ^every=1", CANNOT_STAND);
        bad("when ^zz=1", CANNOT_STAND);
        bad("^whenever 1=1", CANNOT_STAND);
        bad("^Prior 1", CANNOT_STAND);
        bad("^tracea 1", CANNOT_STAND);
    }

    void p14WordsSpeltOtherwise() {
        says("0 a byte or WORD that can't stand there,");
        for (String word : VALUE_WORDS) {
            good("when " + word + "=1");
            for (int n = 0; n < word.length(); n++) {
                bad("when ^" + word.substring(0, n) + "x" + word.substring(n + 1) + "=1", CANNOT_STAND);
                bad("when ^" + word.substring(0, n) + word.substring(n + 1) + "=1", CANNOT_STAND);
            }
        }
        for (String word : new String[] {"prior", "when", "trace"}) {
            String rest = word.equals("prior") ? " 1" : word.equals("when") ? " 1=1" : " A 1";
            good(word + rest);
            for (int n = 0; n < word.length(); n++) {
                bad("^" + word.substring(0, n) + "x" + word.substring(n + 1) + rest, CANNOT_STAND);
                bad("^" + word.substring(0, n) + word.substring(n + 1) + rest, CANNOT_STAND);
            }
        }
    }

    /** Behind a beginning each token and each byte: those that may stand there are no fault, the others are one. */
    private void mayStand(boolean asRule, String beginning, String... may) {
        List<String> allowed = List.of(may);
        List<String> tokens = new ArrayList<>(List.of("", "<=", ">=", "xyz", "prior", "when", "trace", "must", "every",
                "if", "not", "and", "or"));
        tokens.addAll(List.of(VALUE_WORDS));
        for (int sign = 0; sign < 256; sign++) {
            if (sign != ' ') {
                tokens.add("" + (char) sign);
            }
        }
        for (String token : tokens) {
            Used x = new Used();
            String text = beginning + token;
            int answer = asRule ? x.rule(text) : x.story(text);
            boolean isFault = answer == -2 - fault(beginning.length(), CANNOT_STAND);
            due(text + " is a fault there", isFault, !allowed.contains(kindOf(token)));
        }
    }

    private static String kindOf(String token) {
        if (token.matches("[0-9]")) {
            return "number";
        }
        if (token.matches("[A-P]")) {
            return "letter";
        }
        return List.of(VALUE_WORDS).contains(token) ? "value" : token.isEmpty() ? "end" : token;
    }

    void p14WhatMayStandThere() {
        says("0 a byte or WORD that can't stand there, or the end (behind the last byte);");
        mayStand(false, "", "prior", "when", "trace");
        mayStand(false, "prior ", "number");
        mayStand(false, "prior 1 ", ";", "end");
        mayStand(false, "when 1=1;", "prior", "when", "trace");
        mayStand(false, "prior 1;", "prior", "when", "trace");
        mayStand(false, "trace ", "letter");
        mayStand(false, "trace A ", "number");
        mayStand(false, "trace A 1 ", "if", ";", "end");
        for (String beginning : new String[] {"when ", "when not ", "when [", "when 1=1 and ", "when 1=1 or ",
            "trace A 1 if ", "when not [not [1=1 or "}) {
            mayStand(false, beginning, "not", "[", "number", "value");
        }
        for (String beginning : new String[] {"when 1+", "when hour-", "when 1=", "when 1<=", "when 1=1-"}) {
            mayStand(false, beginning, "number", "value");
        }
        mayStand(false, "when 1 ", "+", "-", "<", "<=", "=", ">=", ">");
        mayStand(false, "when hour+1 ", "+", "-", "<", "<=", "=", ">=", ">");
        mayStand(false, "when 1=1 ", "+", "-", "and", "or", ";", "end");
        mayStand(false, "trace A 1 if not hour=air ", "+", "-", "and", "or", ";", "end");
        mayStand(false, "when [1=1 ", "+", "-", "and", "or", "]");
        mayStand(false, "when [1=1] ", "and", "or", ";", "end");
        mayStand(false, "when [[1=1] ", "and", "or", "]");
    }

    void p14Blanks() {
        says("Blanks (32) stand between as one likes.");
        good("prior1;when hour=1;traceA1if1=1");
        good("   prior   1   ;   when   not   [   hour   +   1   <=   1   ]   ;   trace   A   1   if   1   =   1  ");
        bad("^pri or 1", CANNOT_STAND);
        bad("prior 1 ^2", CANNOT_STAND);
        bad("when 1< ^=1", CANNOT_STAND);
        bad("when 1> ^=1", CANNOT_STAND);
        for (int sign : new int[] {0, 9, 10, 13, 31, 33, 127, 160, 255}) {
            bad("prior^" + (char) sign + "1", CANNOT_STAND);
            bad("prior 1^" + (char) sign, CANNOT_STAND);
        }
    }

    void p14TenDeep() {
        says("[ and not lie within one another 10 deep at most;",
                "2 too deep (at the sign that opens, or the word not);");
        good("when " + "[".repeat(10) + "1=1" + "]".repeat(10));
        good("when " + "not ".repeat(10) + "1=1");
        good("when " + "not[".repeat(5) + "1=1" + "]".repeat(5));
        bad("when " + "[".repeat(10) + "^[1=1" + "]".repeat(11), TOO_DEEP);
        bad("when " + "not ".repeat(10) + "^not 1=1", TOO_DEEP);
        bad("when " + "not[".repeat(5) + "^not 1=1" + "]".repeat(5), TOO_DEEP);
        bad("when " + "not[".repeat(5) + "^[1=1]" + "]".repeat(5), TOO_DEEP);
        bad("when " + "[".repeat(10) + "1=1 and ^[1=1]" + "]".repeat(10), TOO_DEEP);
        bad("when " + "[".repeat(10) + "^[", TOO_DEEP);
        bad("trace A 1 if " + "[".repeat(10) + "1=1 or ^not", TOO_DEEP);
    }

    void p14DeepBesideOneAnother() {
        says("[ and not lie within one another 10 deep at most;");
        String deep = "[".repeat(9) + "not 1=1" + "]".repeat(9);
        good("when " + deep + " and " + deep + " or " + deep + ";when " + deep);
        good("when [not 1=1]" + " and [not 1=1]".repeat(12));
        bad("when " + deep + " and " + "[".repeat(10) + "^not 1=1", TOO_DEEP);
    }

    void p14SixtyParts() {
        says("at most 60 VALUES (of TESTS) and FACTS made of a SIGN, together.",
                "3 one VALUE or FACT too many (at its first byte; of a FACT at its SIGN);");
        good("when " + SIXTY);
        good("when 1" + "+1".repeat(57) + "=1");
        bad("when " + SIXTY + " or ^1=1", TOO_MANY_PARTS);
        bad("when " + SIXTY + " or ^hour=1", TOO_MANY_PARTS);
        bad("when " + SIXTY + " or not [^1=1", TOO_MANY_PARTS);
        bad("when 1" + "+1".repeat(57) + "=1+^1", TOO_MANY_PARTS);
        bad("when 1" + "+1".repeat(58) + "=^1", TOO_MANY_PARTS);
        bad("when 1" + "+1".repeat(59) + "^=1", TOO_MANY_PARTS);
        bad("when 1" + "+1".repeat(59) + " ^>=1", TOO_MANY_PARTS);
        bad("when 1" + "+1".repeat(59) + "+^1", TOO_MANY_PARTS);
    }

    void p14SixtyPartsOfAllTests() {
        says("at most 60 VALUES (of TESTS) and FACTS made of a SIGN, together.");
        bad("when " + SIXTY + ";when ^1=1", TOO_MANY_PARTS);
        bad("when " + SIXTY + ";trace A 5 if ^1=1", TOO_MANY_PARTS);
        good("prior 2;when " + SIXTY + ";trace A 5;trace B 6");
        good("when " + SIXTY.replaceAll("1=1 or 1=1", "not [1=1 or not 1=1]"));
    }

    void p14FirstAlongTheText() {
        says("FAULTS, the first along the text, 1 + 8 * its place and:");
        bad("prior ^0;prior 1", WRONG_NUMBER);
        bad("prior 1;^prior 0", TOO_MANY_CLAUSES);
        bad("when 1=^123456 or ?", WRONG_NUMBER);
        bad("when " + "[".repeat(10) + "^[?", TOO_DEEP);
        bad("when " + "[".repeat(9) + "^?[[", CANNOT_STAND);
        bad("trace A 1;".repeat(14) + "^trace Q 1001", TOO_MANY_CLAUSES);
        bad("trace A 1;".repeat(13) + "trace A ^1001;prior 1", WRONG_NUMBER);
    }

    void p14OfOnePlaceTheLeast() {
        says("Of one place the least.");
        String sixty = "when 1" + "+1".repeat(59);
        bad(sixty + "+^?", CANNOT_STAND);
        bad(sixty + "+^word", CANNOT_STAND);
        bad(sixty + "+^[", CANNOT_STAND);
        bad(sixty + "+^", CANNOT_STAND);
        bad(sixty + "+^123456", WRONG_NUMBER);
        bad(sixty + "+^12345", TOO_MANY_PARTS);
        bad(sixty + "^]", CANNOT_STAND);
        bad(sixty + "^;", CANNOT_STAND);
        bad(sixty + "^", CANNOT_STAND);
    }

    void p14MustIsNoClauseOfIt() {
        says("Of a STORY: prior NUMBER (1 to 9999) | when TEST | trace TRACE NUMBER (0 to 1000) [ if TEST ].");
        bad("^must 1 every 1", CANNOT_STAND);
        bad("prior 1;^must 1 every 1", CANNOT_STAND);
    }

    // Promise 15: rule

    void p15ItsNumber() {
        says("The same as a RULE.", "STORIES 0 to 9 and RULES 0 to 9:");
        Used x = new Used();
        for (int n = 0; n < 10; n++) {
            due("rule", x.rule("must 1 every 1"), n);
            due("empty then", x.count(12), 0);
            due("rules", x.count(10), n + 1);
        }
        due("no story", x.count(9), 0);
    }

    void p15ItsFault() {
        says("The same as a RULE.");
        Used x = new Used();
        due("a fault", x.rule("must 1 every 1;?"), -2 - fault(15, CANNOT_STAND));
        due("empty then, too", x.count(12), 0);
        due("no rule", x.count(10), 0);
        due("no byte", x.rule(), -2 - fault(0, CANNOT_STAND));
        due("the next one is the first", x.rule("must 1 every 1"), 0);
    }

    private static Used tenRules() {
        Used x = new Used();
        for (int n = 0; n < 10; n++) {
            x.rule("must 1 every 1");
        }
        return x;
    }

    void p15ThereAreTen() {
        says("The same as a RULE.");
        refused(() -> {
            Used x = tenRules();
            x.tape("must 1 every 1");
            return x;
        }, "an eleventh", Used::rule, -1);
        refused(() -> {
            Used x = tenRules();
            x.tape("?");
            return x;
        }, "an eleventh with a fault", Used::rule, -1);
        Used x = tenRules();
        x.tape("prior 1");
        due("refused as a rule", x.rule(), -1);
        due("it is a story then", x.story(), 0);
    }

    void p15Man() {
        says("Of a RULE: must NUMBER (a MAN, 0 to 9)");
        goodRule("must 0 every 1");
        goodRule("must 9 every 1");
        goodRule("must 00009 every 1");
        badRule("must ^10 every 1", WRONG_NUMBER);
        badRule("must ^000000 every 1", WRONG_NUMBER);
        badRule("must ^-1 every 1", CANNOT_STAND);
        badRule("must ^every 1", CANNOT_STAND);
        badRule("must^", CANNOT_STAND);
    }

    void p15Every() {
        says("every NUMBER (1 to 9999) [ if TEST ].");
        goodRule("must 1 every 1");
        goodRule("must 1 every 9999");
        badRule("must 1 every ^0", WRONG_NUMBER);
        badRule("must 1 every ^10000", WRONG_NUMBER);
        badRule("must 1 every ^000001", WRONG_NUMBER);
        badRule("must 1 every^", CANNOT_STAND);
        badRule("must 1^", CANNOT_STAND);
        badRule("must 1 ^1", CANNOT_STAND);
        badRule("must 1 ^ever 1", CANNOT_STAND);
        badRule("must 1 ^if 1=1", CANNOT_STAND);
    }

    void p15IfTest() {
        says("[ if TEST ].");
        goodRule("must 1 every 1 if 1=1");
        goodRule("must1every1if1=1");
        badRule("must 1 every 1 if^", CANNOT_STAND);
        badRule("must 1 every 1 ^when 1=1", CANNOT_STAND);
        badRule("must 1 every 1 ^1=1", CANNOT_STAND);
        badRule("must 1 every 1 if 1=^123456", WRONG_NUMBER);
    }

    void p15WhatMayStandThere() {
        says("0 a byte or WORD that can't stand there, or the end (behind the last byte);");
        mayStand(true, "", "must");
        mayStand(true, "must ", "number");
        mayStand(true, "must 1 ", "every");
        mayStand(true, "must 1 every ", "number");
        mayStand(true, "must 1 every 1 ", "if", ";", "end");
        mayStand(true, "must 1 every 1;", "must");
        mayStand(true, "must 1 every 1 if ", "not", "[", "number", "value");
        mayStand(true, "must 1 every 1 if 1=1 ", "+", "-", "and", "or", ";", "end");
    }

    void p15FourteenClauses() {
        says("CLAUSE { ; CLAUSE }, 14 at most.", "4 a fifteenth CLAUSE,");
        String thirteen = "must 1 every 1;".repeat(13);
        goodRule(thirteen + "must 1 every 1");
        badRule(thirteen + "must 1 every 1;^must 1 every 1", TOO_MANY_CLAUSES);
        badRule(thirteen + "must 1 every 1;^must", TOO_MANY_CLAUSES);
        badRule(thirteen + "must 1 every 1;^prior 1", CANNOT_STAND);
        badRule(thirteen + "must 1 every 1;^", CANNOT_STAND);
    }

    void p15TenDeep() {
        says("[ and not lie within one another 10 deep at most;",
                "2 too deep (at the sign that opens, or the word not);");
        goodRule("must 1 every 1 if " + "[".repeat(10) + "1=1" + "]".repeat(10));
        badRule("must 1 every 1 if " + "[".repeat(10) + "^[1=1", TOO_DEEP);
        badRule("must 1 every 1 if " + "not ".repeat(10) + "^not 1=1", TOO_DEEP);
    }

    void p15SixtyParts() {
        says("at most 60 VALUES (of TESTS) and FACTS made of a SIGN, together.",
                "3 one VALUE or FACT too many (at its first byte; of a FACT at its SIGN);");
        goodRule("must 1 every 1 if " + SIXTY + ";must 2 every 2");
        badRule("must 1 every 1 if " + SIXTY + ";must 2 every 2 if ^1=1", TOO_MANY_PARTS);
        badRule("must 1 every 1 if 1" + "+1".repeat(59) + "^<1", TOO_MANY_PARTS);
    }

    void p15MostBytes() {
        says("texts of at most 400 bytes.");
        goodRule("must 1 every 1" + " ".repeat(386));
        badRule("must 1 every" + " ".repeat(388) + "^", CANNOT_STAND);
    }

    void p15ClausesOfAStoryAreNoneOfIt() {
        says("Of a RULE: must NUMBER (a MAN, 0 to 9) every NUMBER (1 to 9999) [ if TEST ].");
        badRule("^prior 1", CANNOT_STAND);
        badRule("^when 1=1", CANNOT_STAND);
        badRule("must 1 every 1;^trace A 1", CANNOT_STAND);
    }
}
