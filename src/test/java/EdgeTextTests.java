/** Boundaries of promises 17 to 19: the tape, the reading of terms, and what they give for entries. */
public final class EdgeTextTests {
    private static final int FULL = Edge.FULL, MIN = Edge.MIN, MAX = Edge.MAX;

    public static void main(String[] args) {
        feeding();
        trimming();
        termsRefused();
        termsFull();
        words();
        blanks();
        numbers();
        names();
        signs();
        ends();
        tests();
        brackets();
        nots();
        loosest();
        wraps();
        divisions();
        truths();
        namesOfEntries();
        othersMet();
        inForce();
        Edge.end(17, 19);
    }

    private static void feeding() {
        Edge.test(17, "Twelve bytes come to THE TAPE, the highest of each number first: how many it has.", x -> {
            for (int i = 1; i <= 10; i++) x.due("feed(0, 0, 0)", 12 * i).due("count(9)", 12 * i);
        });
        Edge.test(17, "FULL: it would have more than 120.", x -> {
            x.times(10, "feed(0, 0, 0)").refused("feed(0, 0, 0)", FULL).refused("feed(MIN, MAX, -1)", FULL).due("count(9)", 120);
        });
        Edge.test(17, "FULL: it would have more than 120.", x -> {
            x.small().times(10, "feed(538976288, 538976288, 538976288)").set("trim(109)").refused("feed(1, 2, 3)", FULL).due("count(9)", 109);
            x.due("trim(108)", 108).due("feed(538976288, 538976288, 1)", 120).due("terms(0, 0)", -216);
        });
        Edge.test(17, "THE TAPE (120 bytes at most", x -> {
            StringBuilder text = new StringBuilder("parts n rate r");
            while (text.length() < 118) text.append("+0");
            x.small().put(text + "+1").due("count(9)", 120).refused("feed(0, 0, 0)", FULL).due("terms(0, 0)", 55);
        });
        Edge.test(17, "the highest of each number first", x -> {
            // "part" "s n " "rate", " r  " and blanks
            x.small().set("feed(1885434484, 1931505184, 1918989413)", "feed(544350240, 538976288, 538976288)").due("terms(0, 0)", 2);
        });
        Edge.test(17, "the highest of each number first", x -> {
            // one byte alone is no blank, but a ! (byte 33)
            for (int number = 0; number < 3; number++) {
                for (int place = 0; place < 4; place++) {
                    int[] row = {0x20202020, 0x20202020, 0x20202020};
                    row[number] += 1 << 24 - 8 * place;
                    x.fork().small().set("feed(" + row[0] + ", " + row[1] + ", " + row[2] + ")").due("terms(0, 0)", -100 - 4 * number - place);
                }
            }
        });
        Edge.test(17, "Twelve bytes come to THE TAPE", x -> {
            x.small();
            for (int v : new int[] {MIN, MAX, -1, 0, -2139062144}) x.fork().due("feed(" + v + ", " + v + ", " + v + ")", 12).due("terms(0, 0)", -100);
        });
    }

    private static void trimming() {
        Edge.test(18, "THE TAPE keeps its first n bytes: n. BAD.", x -> {
            x.range("trim(?)", 0, 0).set("feed(0, 0, 0)").range("trim(?)", 0, 12).times(9, "feed(0, 0, 0)").range("trim(?)", 0, 120);
            x.due("trim(120)", 120).due("trim(119)", 119).bad("trim(120)").due("trim(1)", 1).bad("trim(2)").due("trim(0)", 0).bad("trim(1)").due("count(9)", 0);
        });
        Edge.test(18, "THE TAPE keeps its first n bytes: n. BAD.", x -> {
            x.small().put("parts n rate r+1*2").due("trim(16)", 16).due("terms(0, 0)", 3).set("entry(0, 0, 0, 3, 0)").due("worth(0, 0, 1)", 71);
            x.put("parts n rate r+1").due("trim(14)", 14).set("feed(724836384, 538976288, 538976288)").due("terms(0, 0)", 3).due("worth(0, 0, 1)", 74);
        });
    }

    private static void termsRefused() {
        Edge.test(19, "THE TAPE is TERMS of a CLIENT from a DAY (0 .. 900) on", x -> {
            x.put("parts n rate r").bad("terms(0, 0)").small();
            for (int day : new int[] {0, 1, 899, 900}) x.fork().put("parts n rate r").due("terms(0, " + day + ")", 2);
            for (int day : new int[] {-1, 901, MIN, MAX, 65536}) x.put("parts n rate r").bad("terms(0, " + day + ")");
            for (int client : new int[] {-1, 1, MIN, MAX, 65536}) x.put("parts n rate r").bad("terms(" + client + ", 0)");
            x.times(4, "client()").fork().put("parts n rate r").due("terms(4, 0)", 2);
            x.put("parts n rate r").bad("terms(5, 0)").due("count(5)", 0);
        });
        Edge.test(19, "BAD (asked first; THE TAPE is used up, too)", x -> {
            x.small().put("?").bad("terms(1, 0)").due("count(9)", 0).put("parts").bad("terms(0, 901)").due("count(9)", 0);
            for (int i = 0; i < 3; i++) x.terms(0, 0, "parts n rate r");
            x.put("parts n rate r").bad("terms(0, -1)").due("count(9)", 0).put("?").bad("terms(0, 901)").due("count(9)", 0).bad("terms(0, 901)");
        });
        Edge.test(19, "an act that reads it uses it up, whatever it answers", x -> {
            x.small().put("parts n rate r").due("terms(0, 0)", 2).due("count(9)", 0).put("parts n rate ?").refused("terms(0, 0)", -113).due("count(9)", 0);
            x.terms(0, 0, "parts n rate r").terms(0, 0, "parts n rate r").put("parts n rate r").refused("terms(0, 0)", FULL).due("count(9)", 0).refused("terms(0, 0)", -100);
        });
        Edge.test(19, "-100 less the place of its fault", x -> {
            x.small().refused("terms(0, 0)", -100).put(" ".repeat(120)).refused("terms(0, 0)", -220);
            x.put(" ".repeat(119) + "?").refused("terms(0, 0)", -219).put("parts n rate r" + " ".repeat(105) + "r").refused("terms(0, 0)", -219);
            x.put(" ".repeat(106) + "parts n rate r").due("terms(0, 0)", 2);
        });
    }

    private static void termsFull() {
        Edge.test(19, "in force from a DAY on (3 of a CLIENT at most)", x -> {
            x.small().set("client()").terms(0, 0, "parts n rate r").terms(0, 0, "parts n rate r").terms(0, 900, "parts n rate r").due("count(5)", 3);
            x.put("parts n rate r").refused("terms(0, 0)", FULL).put("parts 1 rate 1").refused("terms(0, 900)", FULL).due("count(5)", 3);
            x.terms(1, 0, "parts n rate r").terms(1, 0, "parts n rate r").terms(1, 0, "parts n rate r").due("count(5)", 6).put("parts n rate r").refused("terms(1, 0)", FULL);
        });
        Edge.test(19, "in force from a DAY on (3 of a CLIENT at most)", x -> {
            // terms that are refused leave the others as they are
            x.small().set("days(9)");
            for (int day : new int[] {0, 2, 4, 6, 8}) x.set("entry(0, 0, " + day + ", 3, 0)");
            x.terms(0, 2, "parts 1 rate 10").terms(0, 6, "parts 2 rate 20").terms(0, 4, "parts 3 rate 30").dues("worth(?, 9, 0)", 3, 1, 3, 2, 2);
            for (int day : new int[] {0, 2, 4, 6, 8, 900}) x.put("parts n*9 rate 90").refused("terms(0, " + day + ")", FULL).put("parts n*9 rate ?").refused("terms(0, " + day + ")", -115);
            x.dues("worth(?, 9, 0)", 3, 1, 3, 2, 2).dues("worth(?, 9, 1)", 70, 10, 30, 20, 20);
        });
        Edge.test(19, "-100 less the place of its fault; FULL.", x -> {
            x.small().terms(0, 0, "parts n rate r").terms(0, 0, "parts n rate r").terms(0, 0, "parts n rate r");
            x.put("parts n rate").refused("terms(0, 0)", -112).put("parts n rate r").refused("terms(0, 0)", FULL);
        });
        Edge.test(19, "an act that reads it uses it up, whatever it answers", x -> {
            // what was read ahead of it changes nothing for a text
            String[] faults = {"x", "parts 1 1", "parts 123456", "parts ((((((((", "parts !!!!!!!!", "parts (((((((((", "parts !!!!!!!!!", "parts n rate (!(!(n n", "parts n rate r" + "+1".repeat(52) + "+"};
            for (String fault : faults) {
                Edge y = x.fork().small().set("entry(0, 0, 0, 3, 0)").put(fault);
                y.isRefused("terms(0, 0)");
                y.terms(0, 0, "parts ((((((((!!!!!!!!n)))))))) rate ((((((((!!!!!!!!r))))))))").due("worth(0, 0, 0)", 1).due("worth(0, 0, 1)", 1);
            }
        });
        Edge.test(19, "THE TAPE (120 bytes at most", x -> {
            x.small().times(4, "client()").set("days(2)");
            for (int i = 0; i < 15; i++) {
                x.terms(i / 3, i % 3, "parts 1" + "+1".repeat(i) + " rate 1" + "+1".repeat(53 - i));
                if (i % 3 == 0 && i > 0) x.set("matter(0, " + i / 3 + ", 0)");
            }
            for (int i = 0; i < 15; i++) x.set("entry(0, " + i / 3 + ", " + i % 3 + ", 9, 0)").due("worth(" + i + ", 2, 0)", 1 + i).due("worth(" + i + ", 2, 1)", 54 - i);
        });
        Edge.test(19, "how many NUMBERS and NAMES they have", x -> {
            x.small().times(4, "client()");
            for (int i = 0; i < 15; i++) x.put("parts n rate r" + "+1".repeat(i)).due("terms(" + i / 3 + ", 0)", 2 + i);
            x.due("count(5)", 15);
        });
    }

    /** What a text answers as terms, in a house of its own. */
    private static void text(String words, String text, int want) {
        Edge.test(19, words, x -> {
            x.small().put(text);
            if (want < 0) x.refused("terms(0, 0)", want).due("count(5)", 0);
            else x.due("terms(0, 0)", want).due("count(5)", 1);
            x.due("count(9)", 0);
        });
    }

    private static void words() {
        String rule = "A word is a row of letters a .. z, or of digits, as long as it goes; any other byte is a sign by itself.";
        text(rule, "parts n rate r", 2);
        text(rule, "partsn rate r", -100);
        text(rule, "part s n rate r", -100);
        text(rule, "parts nrate r", -106);
        text(rule, "parts n rater", -108);
        text(rule, "parts n rate rr", -113);
        text(rule, "Parts n rate r", -100);
        text(rule, "parts N rate r", -106);
        text(rule, "parts n Rate r", -108);
        text(rule, "parts `n rate r", -106);
        text(rule, "parts n{ rate r", -107);
        text(rule, "parts n`rate r", -107);
        text(rule, "parts 1/ 1 rate r", 3);
        text(rule, "parts 1: rate r", -107);
        text(rule, "parts a rate r", -106);
        text(rule, "parts z rate r", -106);
        text(rule, "parts 0 rate 9", 2);
        for (int i = 0; i < 5; i++) text(rule, "parts".substring(0, i) + "z" + "parts".substring(i + 1) + " n rate r", -100);
        for (int i = 0; i < 4; i++) text(rule, "parts n " + "rate".substring(0, i) + "z" + "rate".substring(i + 1) + " r", -108);
        for (int i = 1; i < 5; i++) text(rule, "parts".substring(0, i) + " n rate r", -100);
        for (int i = 1; i < 4; i++) text(rule, "parts n " + "rate".substring(0, i) + " r", -108);
        text(rule, "partss n rate r", -100);
        text(rule, "parts n ratee r", -108);
        String glued = "a word right behind another one needs one.";
        text(glued, "parts1 rate r", -105);
        text(glued, "parts 1 rate1", -112);
        text(glued, "parts 1rate r", -107);
        text(glued, "parts n1 rate r", -107);
        text(glued, "parts 1n rate r", -107);
        text(glued, "1parts n rate r", -100);
        text(glued, "parts(n)rate(r)", 2);
        text(glued, "parts!1rate!r", -107);
        text(glued, "parts!1 rate!r", 2);
        text(glued, "parts n+1*r rate(1)", 4);
        text("with which no TEXT goes on (a word that needs a blank ahead of it", "parts 1+n1", -109);
    }

    private static void blanks() {
        String rule = "Between words and signs, and at the ends, there may be blanks (byte 32)";
        text(rule, " parts n rate r", 2);
        text(rule, "parts n rate r ", 2);
        text(rule, "   parts   (   n   +   1   )   rate   !   r   ", 3);
        for (int sign : new int[] {0, 9, 10, 11, 12, 13, 31, 33, 127, 128, 160, 255}) {
            text(rule, "parts n" + (char) sign + "rate r", -107);
            text(rule, (char) sign + "parts n rate r", -100);
            text(rule, "parts n rate r" + (char) sign, -114);
        }
        text(rule, "parts 1 2 rate r", -108);
        text(rule, "parts n r rate r", -108);
        text(rule, "parts n < > 1 rate r", -110);
    }

    private static void numbers() {
        String rule = "NUMBER (1 to 5 digits)";
        text(rule, "parts 0 rate 00000", 2);
        text(rule, "parts 99999 rate 9", 2);
        text(rule, "parts 100000 rate r", -106);
        text(rule, "parts 000000 rate r", -106);
        text(rule, "parts n rate 1+123456", -115);
        text(rule, "parts n rate " + "9".repeat(107), -113);
        text("a NUMBER of more than 5 digits", "parts 12345 rate 123456", -117);
        text("a NUMBER of more than 5 digits", "parts 1 123456 rate r", -108);
        Edge.test(19, rule, x -> {
            x.small().set("entry(0, 0, 0, 3, 0)").terms(0, 0, "parts 00012 rate 99999/10").due("worth(0, 0, 0)", 12).due("worth(0, 0, 1)", 9999);
            x.terms(0, 0, "parts 99999-99998 rate 09876").due("worth(0, 0, 0)", 1).due("worth(0, 0, 1)", 9876);
        });
    }

    private static void names() {
        for (char c = 'a'; c <= 'z'; c++) {
            boolean named = "nrkcgwm".indexOf(c) >= 0;
            text("NAMES, each one letter, of an ENTRY", "parts " + c + " rate 1", named ? 2 : -106);
            text("NAMES, each one letter, of an ENTRY", "parts n" + c + " rate 1", -106);
        }
        text("NAMES, each one letter, of an ENTRY", "parts parts rate r", -106);
        text("NAMES, each one letter, of an ENTRY", "parts n rate rate", -113);
    }

    private static void signs() {
        for (int b = 0; b < 256; b++) {
            boolean joins = b < 128 && "|&<=>+-*/".indexOf(b) >= 0;
            boolean word = b >= 'a' && b <= 'z' || b >= '0' && b <= '9';
            text("E, the loosest first", "parts 1 " + (char) b + " 1 rate 1", joins ? 3 : -108 - (b == 32 ? 2 : 0));
            boolean leaf = b >= '0' && b <= '9' || b < 128 && "nrkcgwm".indexOf(b) >= 0;
            int want = leaf ? 2 : b == 32 ? -108 : b == '!' || b == '(' ? -108 : -106;
            if (!leaf && word) want = -106;
            text("PART: NUMBER (1 to 5 digits) | NAME | ! PART | ( E ).", "parts " + (char) b + " rate 1", want);
        }
        for (String pair : "|| && == <= >= <> << ** // ++ +- -- *- /- |& &| )( (( !)".split(" ")) {
            text("the first byte of the first word or sign with which no TEXT goes on", "parts 1" + pair + "1 rate r", pair.equals(")(") || pair.charAt(0) == '(' || pair.charAt(0) == '!' ? -107 : -108);
        }
        text("TERM: PART { (* | /) PART }", "parts *1 rate r", -106);
        text("SUM: TERM { (+ | -) TERM }", "parts -1 rate r", -106);
        text("SUM: TERM { (+ | -) TERM }", "parts 1+-1 rate r", -108);
        text("! PART", "parts 1! rate r", -107);
        text("! PART", "parts 1!1 rate r", -107);
        text("! PART", "parts !!1 rate !(r)", 2);
        text("parts E rate E.", "rate n parts r", -100);
        text("parts E rate E.", "parts n parts r", -108);
        text("parts E rate E.", "parts n rate r parts n", -115);
        text("parts E rate E.", "parts n rate r rate r", -115);
        text("parts E rate E.", "n rate r", -100);
        text("parts E rate E.", "(parts n rate r)", -100);
        text("parts E rate E.", "parts (n rate r)", -109);
    }

    private static void ends() {
        String rule = "the end (the place behind the last byte), if it comes too soon";
        String whole = "parts (n+1)*!2<3&4|5 rate (r)";
        for (int n = 0; n <= whole.length(); n++) {
            String cut = whole.substring(0, n);
            // the words that are cut in two, and the word of two letters or more that is no name
            int want = n > 0 && n < 5 ? -100 : n > 21 && n < 25 ? -121 : -100 - n;
            text(rule, cut, n == whole.length() ? 7 : want);
        }
        text(rule, "", -100);
        text(rule, " ", -101);
        text(rule, "parts", -105);
        text(rule, "parts   ", -108);
        text(rule, "parts n rate", -112);
        text(rule, "parts n rate    ", -116);
        text(rule, "parts n rate r+", -115);
        text(rule, "parts n rate r+  ", -117);
        text(rule, "parts n rate (r", -115);
        text(rule, "parts n rate !", -114);
        text(rule, "parts n rate " + "(".repeat(8), -121);
        text(rule, "parts n rate " + "!".repeat(8), -121);
        text(rule, "parts n rate " + "n+".repeat(53), -219);
        text(rule, "parts n rate " + "n+".repeat(53) + " ", -220);
    }

    private static void tests() {
        String rule = "TEST: SUM [ (< | = | >) SUM ]";
        for (String a : "< = >".split(" ")) {
            text(rule, "parts n" + a + "1 rate r", 3);
            for (String b : "< = >".split(" ")) text(rule, "parts n" + a + "1" + b + "2 rate r", -109);
            text(rule, "parts (n" + a + "1)=2 rate r", 4);
            text(rule, "parts n" + a + "1&n" + a + "2|n" + a + "3 rate r", 7);
            text(rule, "parts n" + a + "!1+2*3 rate r", 5);
            text(rule, "parts n" + a + " rate r", -109);
            text(rule, "parts " + a + "n rate r", -106);
        }
    }

    private static void brackets() {
        String rule = "the ninth (, the ninth ! (open till its PART ends) that would be open within one another, too";
        for (int deep = 1; deep <= 12; deep++) {
            String nest = "(".repeat(deep) + "n" + ")".repeat(deep);
            text(rule, "parts " + nest + " rate r", deep <= 8 ? 2 : -114);
            text(rule, "parts n rate " + nest, deep <= 8 ? 2 : -121);
            text(rule, "parts " + nest + "+" + nest + " rate " + nest, deep <= 8 ? 3 : -114);
        }
        text(rule, "parts " + "( ".repeat(9) + "n rate r", -122);
        text(rule, "parts " + "(1+".repeat(8) + "(n rate r", -130);
        text(rule, "parts (((((((((n)))))))))", -114);
        text(rule, "parts ((((((((n)))))))) rate ((((((((r)+1)+1)+1)+1)+1)+1)+1)", 9);
        text(rule, "parts (((((((((", -114);
        text(rule, "parts ((((((((1)))))))+((1)))", -129);
        text(rule, "parts ((((((((1)))))))+(1)) rate r", 3);
        text(rule, "parts ((((((((1))))))+((1))+(1))) rate r", 4);
        text(rule, "parts ((((((((1))))))+(((((((1", -128);
        text(rule, "parts n) rate r", -107);
        text(rule, "parts () rate r", -107);
        text(rule, "parts (n)) rate r", -109);
    }

    private static void nots() {
        String rule = "the ninth ! (open till its PART ends)";
        for (int deep = 1; deep <= 12; deep++) {
            String nest = "!".repeat(deep) + "n";
            text(rule, "parts " + nest + " rate r", deep <= 8 ? 2 : -114);
            text(rule, "parts n rate " + nest, deep <= 8 ? 2 : -121);
            text(rule, "parts " + nest + "*" + nest + " rate " + nest, deep <= 8 ? 3 : -114);
        }
        text(rule, "parts !!!!!!!!(n) rate r", 2);
        text(rule, "parts !!!!!!!!(!n) rate r", -115);
        text(rule, "parts !!!!!!!(!n+!n*!n) rate r", 4);
        text(rule, "parts !!!!!!!(!n+!!n) rate r", -118);
        text(rule, "parts !!!!!!!!(n)+!!!!!!!!n rate r", 3);
        text(rule, "parts !!!!!!!!(n)*!!!!!!!!!n rate r", -126);
        text(rule, "parts (!!!!!!!!n)+!n rate r", 3);
        text(rule, "parts ! ! ! ! ! ! ! ! ! n rate r", -122);
        text(rule, "parts n!!!!!!!!! rate r", -107);
        text(rule, "parts !!!!!!!!!", -114);
    }

    /** What a sum gives as parts for an entry of 3 parts by a lawyer at 70. */
    private static void gives(String words, String sum, int want) {
        Edge.test(19, words, x -> x.small().set("entry(0, 0, 0, 3, 0)").terms(0, 0, "parts " + sum + " rate 1").due("worth(0, 0, 0)", want));
        Edge.test(19, words, x -> x.small().set("entry(0, 0, 0, 3, 0)").terms(0, 0, "parts 1 rate " + sum).due("worth(0, 0, 1)", want));
    }

    private static void loosest() {
        String rule = "E, the loosest first: OR: AND { | AND }; AND: TEST { & TEST }; TEST: SUM [ (< | = | >) SUM ]; SUM: TERM { (+ | -) TERM }; TERM: PART { (* | /) PART }";
        gives(rule, "1|0&0", 1);
        gives(rule, "0&0|1", 1);
        gives(rule, "(1|0)&0", 0);
        gives(rule, "0&(0|1)", 0);
        gives(rule, "1&2=2", 1);
        gives(rule, "2=1&0", 0);
        gives(rule, "(1&2)=2", 0);
        gives(rule, "3&4>3", 1);
        gives(rule, "(3&4)>3", 0);
        gives(rule, "1+1=2", 1);
        gives(rule, "1+(1=2)", 1);
        gives(rule, "7>3+3", 1);
        gives(rule, "(7>3)+3", 4);
        gives(rule, "2+3*4", 14);
        gives(rule, "2*3+4", 10);
        gives(rule, "(2+3)*4", 20);
        gives(rule, "20-6/2", 17);
        gives(rule, "20-6-2", 12);
        gives(rule, "20-(6-2)", 16);
        gives(rule, "20-6+2", 16);
        gives(rule, "24/6/2", 2);
        gives(rule, "24/(6/2)", 8);
        gives(rule, "24/6*2", 8);
        gives(rule, "7*5/3", 11);
        gives(rule, "7*(5/3)", 7);
        gives(rule, "!0*5", 5);
        gives(rule, "!(0*5)", 1);
        gives(rule, "!0+5", 6);
        gives(rule, "!1+5", 5);
        gives(rule, "!0=1", 1);
    }

    private static void wraps() {
        String rule = "Ints wrap";
        gives(rule, "99999*99999/10000/1000", 140);
        gives(rule, "(65536*32767+65535+1)<0", 1);
        gives(rule, "(65536*32767+65535)>0", 1);
        gives(rule, "65536*32768<0", 1);
        gives(rule, "65536*65536", 0);
        gives(rule, "65536*65536+7", 7);
        gives(rule, "(0-65536*32767-65535-1)<0", 1);
        gives(rule, "(0-65536*32767-65535-2)>0", 1);
        gives(rule, "65536*32768-1>0", 1);
        gives(rule, "0-65536*32768<0", 1);
    }

    private static void divisions() {
        String rule = "/ cuts towards 0, and is 0 by 0";
        gives(rule, "5/0", 0);
        gives(rule, "0/0", 0);
        gives(rule, "9+5/0", 9);
        gives(rule, "9+(0-5)/0", 9);
        gives(rule, "65536*32768/0", 0);
        gives(rule, "7/2", 3);
        gives(rule, "1/2", 0);
        gives(rule, "9+(0-7)/2", 6);
        gives(rule, "9+7/(0-2)", 6);
        gives(rule, "(0-7)/(0-2)", 3);
        gives(rule, "9+(0-1)/2", 9);
        gives(rule, "65536*32768/(0-1)<0", 1);
        gives(rule, "65536*32768/(0-1)=65536*32768", 1);
        gives(rule, "65536*32768/65536/(0-32768)", 1);
        gives(rule, "5/(n-3)", 0);
    }

    private static void truths() {
        String rule = "tests, & | ! give 1 or 0 (what is not 0 is true; both sides are worked out)";
        gives(rule, "7&9", 1);
        gives(rule, "7&0", 0);
        gives(rule, "0&7", 0);
        gives(rule, "0&0", 0);
        gives(rule, "2&1", 1);
        gives(rule, "7|0", 1);
        gives(rule, "0|7", 1);
        gives(rule, "7|9", 1);
        gives(rule, "0|0", 0);
        gives(rule, "(0-1)&(0-2)", 1);
        gives(rule, "0|(0-1)", 1);
        gives(rule, "!(0-1)", 0);
        gives(rule, "!0", 1);
        gives(rule, "!1", 0);
        gives(rule, "!2", 0);
        gives(rule, "!!2", 1);
        gives(rule, "2<3", 1);
        gives(rule, "3<3", 0);
        gives(rule, "4<3", 0);
        gives(rule, "2=3", 0);
        gives(rule, "3=3", 1);
        gives(rule, "4=3", 0);
        gives(rule, "2>3", 0);
        gives(rule, "3>3", 0);
        gives(rule, "4>3", 1);
        gives(rule, "(0-1)<0", 1);
        gives(rule, "65536*32768<65536*32767", 1);
        gives(rule, "1|1/0", 1);
        gives(rule, "0&1/0", 0);
        for (String none : "0|0 0&0 0&1 1&0 1<1 2<1 1=2 2=1 1>1 1>2".split(" ")) {
            gives(rule, "5+(" + none + ")", 5);
            gives(rule, "5-(" + none + ")", 5);
        }
        for (String one : "1|1 1|0 0|1 9|9 9|0 1&1 9&9 9&2 1<2 1=1 9=9 2>1 !0".split(" ")) {
            gives(rule, "5+(" + one + ")", 6);
            gives(rule, "5-(" + one + ")", 4);
        }
    }

    private static void namesOfEntries() {
        Edge.test(19, "n its PARTS, r RATE, k KIND of its PERSON, c CODE, g KIND of its MATTER, w its DAY's rest by 7", x -> {
            x.set("client()", "person(0, 1)", "person(1, 999)", "person(2, 10)", "person(3, 20)", "days(15)");
            for (int g = 0; g <= 3; g++) x.set("matter(" + g + ", 0, 0)");
            x.terms(0, 0, "parts n rate r").terms(0, 1, "parts w rate k*1000+c*100+g*10+w");
            x.set("entry(0, 0, 0, 1, 0)", "entry(1, 3, 0, 240, 5)", "entry(0, 0, 6, 1, 0)", "entry(3, 3, 7, 9, 5)", "entry(2, 2, 13, 9, 4)", "entry(1, 1, 14, 9, 1)", "entry(3, 0, 15, 9, 0)");
            x.due("worth(0, 15, 0)", 1).due("worth(0, 15, 1)", 1).due("worth(1, 15, 0)", 240).due("worth(1, 15, 1)", 999);
            x.due("worth(2, 15, 0)", 6).due("worth(2, 15, 1)", 6).due("worth(3, 15, 0)", 0).due("worth(3, 15, 1)", 3530);
            x.due("worth(4, 15, 0)", 6).due("worth(4, 15, 1)", 2426).due("worth(5, 15, 0)", 0).due("worth(5, 15, 1)", 1110).due("worth(6, 15, 0)", 1).due("worth(6, 15, 1)", 3001);
        });
    }

    private static void othersMet() {
        String rule = "m how many other PEOPLE have an ENTRY (KNOWN) for the MATTER that has a PART of that DAY in common with it";
        Edge.test(19, rule, x -> {
            x.small().times(7, "person(0, 1)").terms(0, 0, "parts m rate 1+m").set("entry(0, 0, 0, 10010, 0)").due("worth(0, 0, 0)", 0);
            x.set("entry(0, 0, 0, 10010, 0)").due("worth(0, 0, 0)", 0);
            x.set("entry(1, 0, 0, 20001, 0)", "entry(1, 0, 0, 9001, 0)", "entry(1, 0, 0, 10, 0)", "entry(1, 0, 0, 20220, 0)").due("worth(0, 0, 0)", 0);
            x.set("entry(1, 0, 0, 19001, 0)").due("worth(0, 0, 0)", 1).set("entry(1, 0, 0, 10001, 0)").due("worth(0, 0, 0)", 1);
            x.set("entry(2, 0, 0, 11, 0)").due("worth(0, 0, 0)", 2).set("entry(3, 0, 0, 240, 0)").due("worth(0, 0, 0)", 3).due("worth(0, 0, 1)", 4);
            x.set("entry(4, 0, 0, 15001, 0)", "entry(5, 0, 0, 10001, 0)", "entry(6, 0, 0, 10010, 0)", "entry(7, 0, 0, 19221, 0)").due("worth(0, 0, 0)", 7);
        });
        Edge.test(19, rule, x -> {
            x.small().set("person(0, 1)", "matter(0, 0, 0)", "days(1)").terms(0, 0, "parts m rate 1").set("entry(0, 0, 0, 9, 0)");
            x.set("entry(1, 1, 0, 9, 0)", "entry(1, 0, 1, 9, 0)").due("worth(0, 1, 0)", 0).set("entry(1, 0, 0, 1, 0)").due("worth(0, 1, 0)", 1);
        });
        Edge.test(19, rule, x -> {
            // ninety entries, of eight people by turns; the first entry meets the last one's people, too
            x.small().times(7, "person(0, 1)").terms(0, 0, "parts m rate 1");
            for (int e = 0; e < 90; e++) x.set("entry(" + e % 8 + ", 0, 0, " + (1000 * e + 2) + ", 0)");
            x.due("worth(0, 0, 0)", 1).due("worth(1, 0, 0)", 2).due("worth(88, 0, 0)", 2).due("worth(89, 0, 0)", 1);
        });
        Edge.test(19, rule, x -> {
            x.small().set("person(0, 1)", "entry(1, 0, 0, 9, 0)", "entry(0, 0, 0, 9, 0)").terms(0, 0, "parts m rate 1").due("worth(0, 0, 0)", 1).due("worth(1, 0, 0)", 1);
        });
        Edge.test(19, "(AS KNOWN on a DAY for m alone; PEOPLE, TERMS as they are.)", x -> {
            x.small().set("person(0, 1)", "entry(0, 0, 0, 9, 0)", "days(5)", "entry(1, 0, 0, 9, 0)", "days(5)", "withdraw(1)", "days(1)").terms(0, 0, "parts m rate 2");
            x.due("worth(0, 0, 0)", 0).due("worth(0, 4, 0)", 0).due("worth(0, 5, 0)", 1).due("worth(0, 9, 0)", 1).due("worth(0, 10, 0)", 0).due("worth(0, 11, 0)", 0);
            x.due("worth(0, 0, 1)", 2);
        });
    }

    private static void inForce() {
        String rule = "the TERMS of its MATTER's CLIENT with the latest DAY count that are in force on its DAY (of several those told last)";
        Edge.test(19, rule, x -> {
            x.small().set("days(20)").terms(0, 10, "parts 10 rate 1");
            for (int day : new int[] {0, 9, 10, 11, 20}) x.set("entry(0, 0, " + day + ", 3, 0)");
            x.dues("worth(?, 20, 0)", 3, 3, 10, 10, 10).terms(0, 11, "parts 11 rate 1").dues("worth(?, 20, 0)", 3, 3, 10, 11, 11);
            x.terms(0, 10, "parts 12 rate 1").dues("worth(?, 20, 0)", 3, 3, 12, 11, 11).due("worth(1, 20, 1)", 70);
        });
        Edge.test(19, rule, x -> {
            x.small().set("days(20)").terms(0, 20, "parts 20 rate 1").terms(0, 0, "parts 1 rate 1").terms(0, 20, "parts 21 rate 2");
            for (int day : new int[] {0, 19, 20}) x.set("entry(0, 0, " + day + ", 3, 0)");
            x.dues("worth(?, 20, 0)", 1, 1, 21).due("worth(2, 20, 1)", 2);
        });
        Edge.test(19, rule, x -> {
            x.small().set("client()", "matter(0, 1, 0)", "matter(0, 0, 0)", "payers(2, 101, NONE, NONE)").terms(1, 0, "parts 9 rate 9");
            x.set("entry(0, 0, 0, 3, 0)", "entry(0, 1, 0, 3, 0)", "entry(0, 2, 0, 3, 0)").dues("worth(?, 0, 0)", 3, 9, 3);
        });
        Edge.test(19, "from a DAY (0 .. 900) on", x -> {
            x.small().terms(0, 900, "parts 9 rate 9").terms(0, 0, "parts 8 rate 8").times(8, "days(100)").set("days(99)", "entry(0, 0, 899, 3, 0)", "days(1)", "entry(0, 0, 900, 3, 0)", "entry(0, 0, 0, 3, 0)");
            x.dues("worth(?, 900, 0)", 8, 9, 8);
        });
    }
}
