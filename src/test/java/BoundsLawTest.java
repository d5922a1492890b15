import java.util.ArrayList;
import java.util.List;
import java.util.Set;
import java.util.TreeSet;

/** THE TAPE, THE LAW and promises 2, 3, 23 and 24: each sentence that names a boundary case. */
public final class BoundsLawTest {
    private static final int MIN = Integer.MIN_VALUE;
    private static final int MAX = Integer.MAX_VALUE;
    private static final String[] TOKENS = {"use", "pick", "if", "or", "and", "not", "warm", "wet", "size", "span",
        "edge", "minute", "0", "5", "6", "05", "005", "006", "999", "1000", "0000", "00000005", "use5", "x", "usee",
        "us", "picks", "iff", "orr", "ands", "nots", "warmer", "wett", "sizes", "spa", "edg", "minutes", "(", ")", "<",
        "=", ">", ";"};
    private static final String[] VALUES = {"warm", "wet", "size", "span", "edge", "minute", "0", "5", "6", "05", "005",
        "006", "999"};
    private static final Checks c = new Checks();

    public static void main(String[] args) {
        bytesOfEight();
        tapeOf200();
        lawUsesItUp();
        eightClauses();
        namesAndNumbersAsLongAsTheyGo();
        numbersOf0To999();
        blanks();
        otherBytes();
        threeOpen();
        whatCanStand();
        cutOff();
        faultAtTheEndOf200();
        faultsOfTheTerms();
        refusedLawStays();
        lastThatHolds();
        zeroWithoutOne();
        usesOf0To5();
        signs();
        valuesAtTheirEnds();
        notAndOr();
        fullConds();
        picksInAnAir();
        pickedInNoAir();
        picked();
        c.end();
    }

    private static int law(String text) {
        return Checks.law(new FlakeArms(), text);
    }

    private static void fault(String text, int place) {
        c.due("law() of \"" + text + "\"", law(text), -100 - place);
    }

    private static void right(String text, int clauses) {
        c.due("law() of \"" + text + "\"", law(text), clauses);
    }

    private static void bytesOfEight() {
        c.by(2, "n bytes (1 to 8) come to THE TAPE, the lowest of eight first: how many it has.");
        String text = " use 3 ;";
        for (int n = 1; n <= 8; n++) {
            FlakeArms x = new FlakeArms();
            // What lies above the n bytes counts nothing.
            long eight = 0;
            for (int i = 7; i >= 0; i--) {
                eight = eight << 8 | (i < n ? text.charAt(8 - n + i) : 0xee);
            }
            for (int i = 0; i < 8 - n; i++) {
                c.due("feed one", x.feed(text.charAt(i) | 0x4141414141414100L, 1), i + 1);
            }
            c.due("feed(" + eight + ", " + n + ")", x.feed(eight, n), 8);
            c.due("many(3)", x.many(3), 8);
            c.due("law()", x.law(), 1);
            c.due("picks(0, 0, 0)", x.picks(0, 0, 0), 3);
        }
        FlakeArms x = new FlakeArms();
        for (int n : new int[] {0, 9, -1, MIN, MAX, 256 + 1}) {
            c.due("feed(32, " + n + ")", x.feed(32, n), -1);
        }
        c.due("many(3)", x.many(3), 0);
        // The highest byte may be one that makes eight less than 0.
        c.due("feed(-1, 8)", x.feed(-1L, 8), 8);
        c.due("law() of bytes 255", x.law(), -100);
        x.feed(0xff20202020202020L, 8);
        c.due("law() of a byte 255 behind seven blanks", x.law(), -107);
    }

    private static void tapeOf200() {
        c.by(2, "BAD; FULL: more than 200.");
        for (int left = 0; left <= 8; left++) {
            for (int n = 1; n <= 8; n++) {
                FlakeArms x = new FlakeArms();
                for (int i = 0; i < 24; i++) {
                    x.feed(0x2020202020202020L, 8);
                }
                if (left < 8) {
                    c.due("feed(.., " + (8 - left) + ")", x.feed(0x2020202020202020L, 8 - left), 200 - left);
                }
                c.due("feed(.., " + n + ") with " + left + " left", x.feed(0x2020202020202020L, n),
                    n > left ? -2 : 200 - left + n);
                c.due("many(3)", x.many(3), n > left ? 200 - left : 200 - left + n);
                c.due("feed(.., 0)", x.feed(0, 0), -1);
                c.due("feed(.., 9)", x.feed(0, 9), -1);
                c.due("law()", x.law(), 0);
            }
        }
    }

    private static void lawUsesItUp() {
        c.by(3, "THE TAPE takes bytes, 200 at most; law() uses it up.");
        FlakeArms x = new FlakeArms();
        for (String text : new String[] {"", "use 1;", "use", "use 1; ?"}) {
            Checks.feed(x, text);
            c.due("many(3)", x.many(3), text.length());
            x.law();
            c.due("many(3) behind law()", x.many(3), 0);
        }
        for (int round = 0; round < 2; round++) {
            for (int i = 1; i <= 25; i++) {
                c.due("feed(.., 8)", x.feed(0x2020202020202020L, 8), 8 * i);
            }
            c.due("feed(.., 1)", x.feed(32, 1), -2);
            c.due("law() of 200", x.law(), 0);
        }
        c.due("feed(.., 1)", x.feed(32, 1), 1);
    }

    private static void eightClauses() {
        c.by(3, "TEXT: { use N ; | use N if COND ; | pick if COND ; }, 8 CLAUSES at most.");
        String[] clauses = {"use 1;", "use 2 if 1=1;", "pick if 1=1;", "use 0;", "pick if 1<0;", "use 5;", "use 4 if 1>2;",
            "use 3;"};
        StringBuilder text = new StringBuilder();
        right("", 0);
        for (int i = 0; i < 8; i++) {
            text.append(clauses[i]);
            right(text.toString(), i + 1);
            right(text + "  ", i + 1);
        }
        for (String ninth : new String[] {"use 1;", "pick if 1=1;", "use", "x", "if", ";", "1", "("}) {
            fault(text + ninth, text.length());
            fault(text + "  " + ninth, text.length() + 2);
        }
        FlakeArms x = new FlakeArms();
        c.due("law()", Checks.law(x, text.toString()), 8);
        c.due("many(1)", x.many(1), 8);
        c.due("picks(0, 0, 0)", x.picks(0, 0, 0), 3);
        c.due("picked(0)", x.picked(0), 1);
    }

    private static void namesAndNumbersAsLongAsTheyGo() {
        c.by(3, "NAMES are rows of letters a to z, NUMBERS rows of digits (1 to 3), both as long as they go");
        fault("us e 1;", 0);
        fault("usepick", 0);
        fault("pickif 1=1;", 0);
        fault("use 1; usee 2;", 7);
        fault("pick ifwarm=1;", 5);
        fault("pick if notwarm=1;", 8);
        fault("pick if warmwet=1;", 8);
        fault("pick if war m=1;", 8);
        fault("pick if 1=1and1=1andwarm=1;", 17);
        fault("pick if 1=1or1=1orwarm=1;", 16);
        right("pick if 1=1and 1=1or warm=1;", 1);
        right("pick if 1=1and1=1or1=1;", 1);
        right("use5if1=1;pick if1=1;", 2);
        right("pick if warm<wet;", 1);
        // A letter that is none of a to z is a byte of its own.
        fault("use 1; usE 1;", 7);
        fault("pick if z=1;", 8);
        fault("pick if a=1;", 8);
        fault("use 1`;", 5);
        fault("use 1{;", 5);
        fault("use 1/;", 5);
        fault("use 1:;", 5);
        fault("pick if {=1;", 8);
        fault("pick if `=1;", 8);
        fault("pick if /=1;", 8);
        fault("pick if :=1;", 8);
        fault("pick if warm/=1;", 12);
    }

    private static void numbersOf0To999() {
        c.by(3, "N in COND are NUMBERS 0 to 999.");
        for (String n : new String[] {"0", "9", "00", "09", "99", "000", "009", "099", "999"}) {
            right("pick if " + n + "=1;", 1);
            right("pick if 1=" + n + ";", 1);
        }
        for (String n : new String[] {"1000", "0000", "0001", "9999", "00000", "4294967297", "18446744073709551617"}) {
            fault("pick if " + n + "=1;", 8);
            fault("pick if 1=" + n + ";", 10);
        }
        FlakeArms x = new FlakeArms();
        c.due("law()", Checks.law(x, "pick if 999 > 998 and 999 = 0999;"), -128);
        c.due("law()", Checks.law(x, "use 1 if 999>998 and 100=100 and 007=7 and 0=000;"), 1);
        c.due("picks(0, 0, 0)", x.picks(0, 0, 0), 1);
        c.due("law()", Checks.law(x, "use 1 if 999<998 or 100=010 or 999=0 or 10<9;"), 1);
        c.due("picks(0, 0, 0)", x.picks(0, 0, 0), 0);
    }

    private static void blanks() {
        c.by(3, "blanks (32) part them, and stand elsewhere as one likes.");
        right("   ", 0);
        right("use   1   ;   ", 1);
        right("   use 1 if    (   (  warm <   1 )  )   ;  pick if not   not 1   >  0 ;", 2);
        right("use 1if(1<1)or(2>1)and not(1=2);", 1);
        fault("use 1 1;", 6);
        fault("pick if 1 0=1;", 10);
        fault("pick if 1= 1 0;", 13);
        fault("  us e 1;", 2);
        // Another byte that looks like one is none.
        fault("use\t1;", 3);
        fault("use\u00a01;", 3);
        fault("use\n1;", 3);
        fault("use\u00001;", 3);
    }

    private static void otherBytes() {
        c.by(3, "the place (from 0) of the first byte of the first NAME, NUMBER or other byte that can't stand there");
        for (int other = 0; other < 256; other++) {
            char ch = (char) other;
            boolean isName = ch >= 'a' && ch <= 'z';
            boolean isNumber = ch >= '0' && ch <= '9';
            if (ch != ' ') {
                fault(ch + "", 0);
                fault("  " + ch + " use 1;", 2);
                fault("use 1; " + ch, 7);
                if (!isNumber || ch > '5') {
                    fault("use " + ch + ";", 4);
                }
                if (ch != ';') {
                    fault("use 1 " + ch, 6);
                    fault("pick if 1 < 2 " + ch, 14);
                }
                fault("pick " + ch, 5);
                if (!isNumber && ch != '(') {
                    fault("pick if " + ch, 8);
                }
                if (ch != '<' && ch != '=' && ch != '>') {
                    fault("pick if 1 " + ch, 10);
                }
                if (!isNumber) {
                    fault("pick if 1 < " + ch, 12);
                }
                if (!isName) {
                    fault("pick if warm" + ch, ch == '<' || ch == '=' || ch == '>' ? 13 : 12);
                }
            }
        }
    }

    private static void threeOpen() {
        c.by(3, "At most 3 \"(\" are open within one another.");
        right("pick if (1=1);", 1);
        right("pick if ((1=1));", 1);
        right("pick if (((1=1)));", 1);
        fault("pick if ((((1=1))));", 11);
        fault("pick if ( ( ( (1=1))));", 14);
        fault("pick if not(not(not(not(1=1))));", 23);
        right("pick if not(not(not(not 1=1)));", 1);
        right("pick if (1=1)and(1=1)or(1=1)and(1=1)or(1=1);", 1);
        right("pick if (((1=1)or(1=1))and((1=1)or(1=1)));", 1);
        fault("pick if (1=1 and (1=1 or (1=1 and (1=1))));", 34);
        fault("pick if (((1=1)))and((((1=1))));", 23);
        fault("pick if (((1=1 or 1=1) and (1=1 or (1=1)) and ((1=1))));", 35);
        fault("use 1;use 2 if (((1=1 or (1=1))));", 25);
        // Each COND begins anew.
        right("pick if (((1=1)));use 1 if (((1=1)));pick if (((1=1)));", 3);
    }

    private static Set<String> of(String... tokens) {
        Set<String> set = new TreeSet<>();
        for (String token : tokens) {
            set.add(token);
        }
        return set;
    }

    private static Set<String> values(String... and) {
        Set<String> set = of(VALUES);
        set.addAll(of(and));
        return set;
    }

    /** Of each token behind each beginning of a TEXT: whether it may stand there. */
    private static void whatCanStand() {
        c.by(3, "COND: ALL { or ALL } ALL: ONE { and ONE } ONE: { not } ( VALUE SIGN VALUE | \"(\" COND \")\" )");
        Object[][] ways = {
            {"", of("use", "pick")},
            {"use 1;", of("use", "pick")},
            {"use 1 if 1 < 2;", of("use", "pick")},
            {"pick if 1 < 2;", of("use", "pick")},
            {"use", of("0", "5", "05", "005")},
            {"use 5", of("if", ";")},
            {"use 0 if", values("not", "(")},
            {"pick", of("if")},
            {"pick if", values("not", "(")},
            {"pick if not", values("not", "(")},
            {"pick if not not", values("not", "(")},
            {"pick if 1", of("<", "=", ">")},
            {"pick if warm", of("<", "=", ">")},
            {"pick if not minute", of("<", "=", ">")},
            {"pick if 1 <", values()},
            {"pick if 1 =", values()},
            {"pick if edge >", values()},
            {"pick if 1 < 2", of("or", "and", ";")},
            {"use 3 if 1 < wet", of("or", "and", ";")},
            {"pick if 1 < 2 or", values("not", "(")},
            {"pick if 1 < 2 and", values("not", "(")},
            {"pick if 1 < 2 and not", values("not", "(")},
            {"pick if 1 < 2 or 3 > 4", of("or", "and", ";")},
            {"pick if 1 < 2 and 3 > 4", of("or", "and", ";")},
            {"pick if (", values("not", "(")},
            {"pick if ((", values("not", "(")},
            {"pick if (((", values("not")},
            {"pick if (((not", values("not")},
            {"pick if (((1 < 2 or", values("not")},
            {"pick if (((1 < 2 and not", values("not")},
            {"pick if (1", of("<", "=", ">")},
            {"pick if (1 < 2", of("or", "and", ")")},
            {"pick if (((1 < 2", of("or", "and", ")")},
            {"pick if (((1 < 2)", of("or", "and", ")")},
            {"pick if (((1 < 2))", of("or", "and", ")")},
            {"pick if (((1 < 2)))", of("or", "and", ";")},
            {"pick if (((1 < 2) or", values("not", "(")},
            {"pick if (((1 < 2)) or", values("not", "(")},
            {"pick if (1 < 2) and", values("not", "(")},
        };
        for (Object[] way : ways) {
            String begun = (String) way[0];
            @SuppressWarnings("unchecked")
            Set<String> may = (Set<String>) way[1];
            for (String token : TOKENS) {
                String text = begun + (begun.isEmpty() ? "" : " ") + token;
                int place = text.length() - token.length();
                // "use5" is the NAME use and a NUMBER.
                boolean stands = may.contains(token) || token.equals("use5") && may.contains("use");
                if (stands && token.equals(";")) {
                    right(text, begun.startsWith("use 1;") ? 2 : 1);
                } else {
                    fault(text, stands ? text.length() : place);
                    // What comes behind the first that can't stand there counts nothing.
                    if (!stands) {
                        fault(text + " ; 77777 ?", place);
                    }
                }
            }
        }
    }

    private static void cutOff() {
        c.by(3, "or the end (how many bytes there are), if more must come.");
        String text = "use 4 if not ( warm < 3 or 12 = size ) and edge > 100 ; pick if span = 005;";
        // Where a word or the TEXT is cut off so that it may stand, the end is the FAULT.
        for (int n = 0; n <= text.length(); n++) {
            String cut = text.substring(0, n);
            String word = cut.replaceFirst("^.*?([a-z]*)$", "$1");
            boolean whole = word.isEmpty() || List.of("use", "if", "not", "warm", "or", "size", "and", "edge", "pick",
                "span").contains(word);
            int clauses = cut.isBlank() ? 0 : cut.endsWith(";") && n < text.length() ? 1 : n == text.length() ? 2 : -1;
            if (cut.trim().endsWith(";") && n < text.length()) {
                clauses = 1;
            }
            if (clauses >= 0) {
                right(cut, clauses);
                right(cut + "   ", clauses);
            } else if (whole) {
                fault(cut, n);
                fault(cut + "   ", n + 3);
            } else {
                fault(cut, n - word.length());
                fault(cut + "   ", n - word.length());
            }
        }
    }

    private static String padded(String text, int length) {
        StringBuilder b = new StringBuilder(text);
        while (b.length() < length) {
            b.append(' ');
        }
        return b.toString();
    }

    private static String behind(String text, int length) {
        return padded("", length - text.length()) + text;
    }

    private static void faultAtTheEndOf200() {
        c.by(3, "THE TAPE becomes THE LAW: how many CLAUSES; -100 less its FAULT.");
        right(padded("", 200), 0);
        right(padded("use 1;", 200), 1);
        right(behind("use 1;", 200), 1);
        right(behind("use 1 if minute=999;", 200), 1);
        fault(behind("use 1", 200), 200);
        fault(padded("use 1", 200), 200);
        fault(padded("use", 200), 200);
        fault(behind("use", 200), 200);
        fault(behind("us", 200), 198);
        fault(behind(";", 200), 199);
        fault(behind("7", 200), 199);
        fault(behind("7777", 200), 196);
        fault(behind("use 1; x", 200), 199);
        fault(padded("\u00e9", 200), 0);
        // The longest NAME and the longest NUMBER.
        fault(padded("", 200).replace(' ', 'a'), 0);
        fault(padded("", 200).replace(' ', '9'), 0);
        fault("use " + padded("", 196).replace(' ', '0'), 4);
        fault("pick if " + padded("", 192).replace(' ', '('), 11);
        fault(padded("", 200).replace(' ', ';'), 0);
        fault("pick if " + padded("", 192).replace("    ", "not "), 200);
    }

    private static void faultsOfTheTerms() {
        c.by(3, "(a NUMBER of more digits, an N behind use above 5, the fourth \"(\", the first NAME of the ninth CLAUSE, "
            + "too)");
        fault("use 0005;", 4);
        fault("use  1234;", 5);
        fault("use 1 if 1234 < 1;", 9);
        fault("use 1 if 1 < 1234;", 13);
        fault("use 1 if 1 < 1 1234;", 15);
        right("use 5;", 1);
        fault("use 6;", 4);
        fault("use 06;", 4);
        fault("use 006;", 4);
        fault("use 10;", 4);
        fault("use 261;", 4);
        fault("use 999;", 4);
        fault("use 6", 4);
        fault("use 6 if", 4);
        fault("pick if ((((", 11);
        fault("pick if (((1=1) or (", 20);
        fault("pick if (((1=1 or (", 18);
        String eight = "use 1;use 1;use 1;use 1;use 1;use 1;use 1;use 1;";
        right(eight, 8);
        fault(eight + "use 1;", 48);
        fault(eight + " pick if 1=1;", 49);
        fault(eight.substring(0, 42) + "use 6;", 46);
    }

    private static void refusedLawStays() {
        c.by(3, "such a call changes nothing (but that THE TAPE is used up by law())");
        FlakeArms x = new FlakeArms();
        x.growth(0, 1);
        String[] faults = {"use 4 if 1=1; pick", "use 6;", ";", "use 4;use 4;use 4;use 4;use 4;use 4;use 4;use 4;use 4;"};
        c.due("law()", Checks.law(x, "use 2; pick if size = 1; use 3 if warm > wet;"), 3);
        for (String text : faults) {
            Checks.feed(x, text);
            c.dueTrue("law() of \"" + text + "\" is refused", x.law() <= -100);
            c.due("many(1)", x.many(1), 3);
            c.due("many(3)", x.many(3), 0);
            c.due("picks(0, 0, 0)", x.picks(0, 0, 0), 2);
            c.due("picks(0, 1, 0)", x.picks(0, 1, 0), 3);
            c.due("picked(0)", x.picked(0), 1);
        }
        c.due("law() of nothing", x.law(), 0);
        c.due("many(1)", x.many(1), 0);
        c.due("picks(0, 0, 0)", x.picks(0, 0, 0), 0);
        c.due("picked(0)", x.picked(0), 0);
        // One refused at first leaves none.
        FlakeArms y = new FlakeArms();
        c.due("law()", Checks.law(y, "use 4; use"), -110);
        c.due("many(1)", y.many(1), 0);
        c.due("picks(0, 0, 0)", y.picks(0, 0, 0), 0);
    }

    private static void picksBy(String text, int want) {
        FlakeArms x = new FlakeArms();
        Checks.law(x, text);
        c.due("picks(3, 4, 7) by \"" + text + "\"", x.picks(3, 4, 7), want);
    }

    private static void lastThatHolds() {
        c.by(23, "The GROWTH of a FLAKE in an air: N (0 to 5) of the last CLAUSE use that holds (or has no COND)");
        picksBy("use 1;", 1);
        picksBy("use 1; use 2;", 2);
        picksBy("use 1; use 2 if 1=2;", 1);
        picksBy("use 1 if 1=1; use 2 if 1=2;", 1);
        picksBy("use 1 if 1=2; use 2 if 1=1;", 2);
        picksBy("use 1 if 1=1; use 2; use 3 if 1=2; pick if 1=1;", 2);
        picksBy("use 1; pick if 1=1;", 1);
        picksBy("use 1; use 2; use 3; use 4; use 5; use 0; use 1; use 2;", 2);
        picksBy("use 3; use 2 if 1=2; use 2 if 1=2; use 2 if 1=2; use 2 if 1=2; use 2 if 1=2; use 2 if 1=2; use 2 if 1=2;", 3);
        picksBy("use 3; use 0;", 0);
    }

    private static void zeroWithoutOne() {
        c.by(23, "0 without one.");
        picksBy("", 0);
        picksBy("use 1 if 1=2;", 0);
        picksBy("use 1 if 1=2; use 5 if 1>2;", 0);
        picksBy("pick if 1=1;", 0);
        picksBy("pick if 1=1; pick if 1=2;", 0);
    }

    private static void usesOf0To5() {
        c.by(23, "The GROWTH of a FLAKE in an air (there may be no such one). BAD.");
        for (int n = 0; n <= 5; n++) {
            picksBy("use " + n + ";", n);
            picksBy("use 00" + n + ";", n);
            picksBy("use 0" + n + " if 1=1;", n);
        }
    }

    private static void cond(FlakeArms x, int flake, String cond, boolean want) {
        if (Checks.law(x, "use 1 if " + cond + ";") != 1) {
            c.dueTrue("law() of " + cond, false);
        }
        c.due("picks(" + flake + ", 0, 9) by " + cond, x.picks(flake, 0, 9), want ? 1 : 0);
    }

    private static void signs() {
        c.by(23, "SIGN: < | = | >");
        FlakeArms x = new FlakeArms();
        for (int[] two : new int[][] {{0, 0}, {0, 1}, {1, 0}, {998, 999}, {999, 999}, {999, 998}, {999, 0}, {512, 511}}) {
            cond(x, 0, two[0] + "<" + two[1], two[0] < two[1]);
            cond(x, 0, two[0] + "=" + two[1], two[0] == two[1]);
            cond(x, 0, two[0] + ">" + two[1], two[0] > two[1]);
        }
    }

    /** The VALUE is just this one. */
    private static void valueIs(FlakeArms x, int flake, String name, int value) {
        cond(x, flake, name + "=" + value, true);
        cond(x, flake, value + "<" + name + " or " + name + "<" + value, false);
        cond(x, flake, name + ">" + value + " or " + value + ">" + name, false);
    }

    private static void valuesAtTheirEnds() {
        c.by(23, "VALUE: N | warm | wet | size | span | edge | minute");
        FlakeArms x = new FlakeArms();
        x.growth(0, 0);
        Ice.put(x, 1, Ice.all());
        Ice.put(x, 2, new TreeSet<>());
        Set<NaiveFlakes.At> third = Ice.all();
        third.removeIf(cell -> Math.floorMod(cell.q() - cell.r(), 3) != 0);
        Ice.put(x, 3, third);
        Ice.passTo(x, 1, 60, 0);
        valueIs(x, 0, "warm", 0);
        valueIs(x, 0, "wet", 9);
        valueIs(x, 0, "size", 1);
        valueIs(x, 0, "span", 0);
        valueIs(x, 0, "edge", 6);
        valueIs(x, 0, "minute", 0);
        valueIs(x, 1, "size", 91);
        valueIs(x, 1, "span", 5);
        valueIs(x, 1, "edge", 0);
        valueIs(x, 1, "minute", 60);
        valueIs(x, 2, "size", 0);
        valueIs(x, 2, "span", 0);
        FlakeArms y = new FlakeArms();
        y.freeze(0, 0, 0, false);
        valueIs(y, 0, "edge", 0);
        Ice.put(y, 1, third);
        valueIs(y, 1, "edge", y.size(1, 2));
        valueIs(y, 1, "size", third.size());
        for (int v = 0; v <= 9; v++) {
            FlakeArms z = new FlakeArms();
            Checks.law(z, "use 1 if warm=" + v + ";use 2 if wet=" + v + ";");
            for (int w = 0; w <= 9; w++) {
                c.due("picks(0, " + v + ", " + w + ")", z.picks(0, v, w), w == v ? 2 : 1);
                c.due("picks(0, " + w + ", " + v + ")", z.picks(0, w, v), 2);
            }
        }
        cond(y, 0, "warm=wet", false);
        cond(y, 0, "minute=warm and size=minute and span=edge", true);
    }

    private static void notAndOr() {
        c.by(23, "ALL { or ALL }");
        String[] ones = {"0=1", "0=0"};
        for (int bits = 0; bits < 8; bits++) {
            boolean a = (bits & 1) != 0;
            boolean b = (bits & 2) != 0;
            boolean d = (bits & 4) != 0;
            String p = ones[bits & 1];
            String q = ones[bits >> 1 & 1];
            String r = ones[bits >> 2];
            FlakeArms x = new FlakeArms();
            cond(x, 0, p + " or " + q + " or " + r, a || b || d);
            cond(x, 0, p + " and " + q + " and " + r, a && b && d);
            cond(x, 0, p + " or " + q + " and " + r, a || b && d);
            cond(x, 0, p + " and " + q + " or " + r, a && b || d);
            cond(x, 0, "(" + p + " or " + q + ") and " + r, (a || b) && d);
            cond(x, 0, p + " and (" + q + " or " + r + ")", a && (b || d));
            cond(x, 0, "not " + p + " or " + q + " and " + r, !a || b && d);
            cond(x, 0, "not " + p + " and " + q + " or " + r, !a && b || d);
            cond(x, 0, p + " and not " + q + " or not " + r, a && !b || !d);
            cond(x, 0, "not (" + p + " or " + q + ") and " + r, !(a || b) && d);
            cond(x, 0, "not (" + p + " and " + q + " or " + r + ")", !(a && b || d));
            cond(x, 0, "not not " + p + " and not not not " + q, a && !b);
            cond(x, 0, "not (not (not (" + p + ")))", !a);
        }
    }

    /** As much as a COND can hold: the deepest, and the longest of 200 bytes. */
    private static void fullConds() {
        c.by(23, "of the last CLAUSE use that holds");
        FlakeArms x = new FlakeArms();
        for (int bits = 0; bits < 16; bits++) {
            String cond = "0=1 or 0=0 and (0=1 or 0=0 and (0=1 or 0=0 and (0=1 or 0=0 and not " + (bits & 1) + "=" + (bits >> 3)
                + ")))";
            cond(x, 0, cond, (bits & 1) != bits >> 3);
        }
        for (String last : new String[] {"0=0", "0=1"}) {
            StringBuilder ors = new StringBuilder("0>0");
            StringBuilder ands = new StringBuilder("0=0");
            while (ors.length() < 180) {
                ors.append("or0>0");
                ands.append("and0=0");
            }
            ands.setLength(3 + 6 * 29);
            FlakeArms y = new FlakeArms();
            cond(y, 0, ors + "or" + last, last.equals("0=0"));
            cond(y, 0, ands + "and" + last, last.equals("0=0"));
            cond(y, 0, last + "or" + ors, last.equals("0=0"));
            cond(y, 0, last + "and" + ands, last.equals("0=0"));
            List<String> nots = new ArrayList<>();
            while (nots.size() < 45) {
                nots.add("not");
            }
            cond(y, 0, String.join(" ", nots) + " " + last, last.equals("0=1"));
            nots.remove(0);
            cond(y, 0, String.join(" ", nots) + " " + last, last.equals("0=0"));
        }
        // Eight CLAUSES whose CONDS are as many.
        for (int holds = 0; holds < 8; holds++) {
            StringBuilder text = new StringBuilder();
            for (int i = 0; i < 8; i++) {
                text.append("use ").append(i % 6).append(" if size=").append(i == holds ? 1 : 2).append(i % 2 == 0 ? ";" : "or 1=2;");
            }
            FlakeArms y = new FlakeArms();
            c.due("law()", Checks.law(y, text.toString()), 8);
            c.due("picks(0, 0, 0) by CLAUSE " + holds, y.picks(0, 0, 0), holds % 6);
        }
    }

    private static void picksInAnAir() {
        c.by(21, "warm and wet (0 to 9 each; 0 at first)");
        FlakeArms x = new FlakeArms();
        Checks.law(x, "use 2; use 3 if warm > 8 and wet > 8;");
        c.due("picks(0, 9, 9)", x.picks(0, 9, 9), 3);
        c.due("picks(0, 9, 8)", x.picks(0, 9, 8), 2);
        c.due("picks(0, 0, 0)", x.picks(0, 0, 0), 2);
        c.due("picks(3, 9, 9)", x.picks(3, 9, 9), 3);
        for (int v : new int[] {-1, 10, MIN, MAX}) {
            c.due("picks(0, " + v + ", 9)", x.picks(0, v, 9), -1);
            c.due("picks(0, 9, " + v + ")", x.picks(0, 9, v), -1);
            c.due("picks(0, " + v + ", " + v + ")", x.picks(0, v, v), -1);
        }
        for (int f : new int[] {-1, 4, MIN, MAX}) {
            c.due("picks(" + f + ", 9, 9)", x.picks(f, 9, 9), -1);
        }
    }

    private static void pickedInNoAir() {
        c.by(24, "A FLAKE is PICKED, if the COND of some CLAUSE pick holds (warm, wet are 0 then).");
        FlakeArms x = new FlakeArms();
        for (int minute = 0; minute < 24; minute++) {
            x.air(minute, 9, 9);
        }
        x.growth(0, 0);
        Checks.law(x, "pick if warm > 0 or wet > 0;");
        x.picks(0, 9, 9);
        x.fall(0, 2);
        c.due("picked(0) by warm or wet above 0", x.picked(0), 0);
        Checks.law(x, "pick if warm = 0 and wet = 0;");
        c.due("picked(0) by none of both", x.picked(0), 1);
        for (int holds = 0; holds <= 8; holds++) {
            StringBuilder text = new StringBuilder();
            for (int i = 0; i < 8; i++) {
                text.append("pick if 1=").append(i == holds ? 1 : 2).append(";");
            }
            c.due("law()", Checks.law(x, text.toString()), 8);
            c.due("picked(0) by CLAUSE " + holds + " of eight", x.picked(0), holds < 8 ? 1 : 0);
        }
        Checks.law(x, "use 1; use 2 if 1=1;");
        c.due("picked(0) by use", x.picked(0), 0);
        Checks.law(x, "");
        c.due("picked(0) without LAW", x.picked(0), 0);
    }

    private static void picked() {
        c.by(24, "Whether a FLAKE is PICKED: 1, 0. BAD.");
        FlakeArms x = new FlakeArms();
        Checks.law(x, "pick if size = 91; pick if size = 0;");
        for (int f = 0; f < 4; f++) {
            c.due("picked(" + f + ")", x.picked(f), 0);
        }
        Ice.put(x, 0, Ice.all());
        Ice.put(x, 3, new TreeSet<>());
        c.due("picked(0) of all", x.picked(0), 1);
        c.due("picked(3) of none", x.picked(3), 1);
        c.due("picked(1)", x.picked(1), 0);
        for (int f : new int[] {-1, 4, MIN, MAX}) {
            c.due("picked(" + f + ")", x.picked(f), -1);
        }
    }
}
