/** Promises 3, 23 and 24: THE LAW, which GROWTH it picks, which FLAKES are PICKED. */
public final class LawTest {
    private static final Checks c = new Checks();

    public static void main(String[] args) {
        read();
        faults();
        refused();
        picks();
        conds();
        picked();
        c.end();
    }

    private static void due(String text, int want) {
        FlakeArms x = new FlakeArms();
        c.due(3, "law() of \"" + text + "\"", Checks.law(x, text), want);
        c.due(3, "many(1) behind \"" + text + "\"", x.many(1), Math.max(0, want));
        c.due(3, "many(3) behind \"" + text + "\"", x.many(3), 0);
    }

    private static void read() {
        due("", 0);
        due("   ", 0);
        due("use 0;", 1);
        due("use 005;", 1);
        due("use5;", 1);
        due("use 1if 2<3;pick if(1=1)and not warm>wet or size<999;", 2);
        due("  use  1  if  not  not  ( span = 1 )  ;  ", 1);
        due("pick if ((( edge > minute )));", 1);
        due("pick if (1=1) and ((1=1) or (((1=1)) ));", -130);
        due("pick if (1=1) and ((1=1) or ((1=1)));", 1);
        due("use 1;use 2;use 3;use 4;use 5;use 0;pick if 1=1;use 1;", 8);
        due("use 1;use 2;use 3;use 4;use 5;use 0;pick if 1=1;use 1; ", 8);
    }

    private static void faults() {
        due("use 1;use 2;use 3;use 4;use 5;use 0;pick if 1=1;use 1; use 1;", -100 - 55);
        due("use 1;use 2;use 3;use 4;use 5;use 0;pick if 1=1;use 1;;", -100 - 54);
        due("use 6;", -104);
        due("use 0005;", -104);
        due("use warm;", -104);
        due("use ;", -104);
        due("use", -103);
        due("use ", -104);
        due("use 1", -105);
        due("use 1  ", -107);
        due("use 1 2;", -106);
        due("use 1 and;", -106);
        due("use 1 if;", -108);
        due("use 1 if", -108);
        due("used 1;", -100);
        due("us 1;", -100);
        due("ase 1;", -100);
        due("uso 1;", -100);
        due("pick if xize = 1;", -108);
        due("pick if 1 = sizx;", -112);
        due("Use 1;", -100);
        due(" 1", -101);
        due("\tuse 1;", -100);
        due("use 1;\n", -106);
        due("use 1;\u00ff", -106);
        due(";", -100);
        due("pick 1;", -105);
        due("pick;", -104);
        due("pick if 1;", -109);
        due("pick if 1 = ;", -112);
        due("pick if 1 = 2 3;", -114);
        due("pick if 1 = 1000;", -112);
        due("pick if 1 == 1;", -111);
        due("pick if 1 1;", -110);
        due("pick if 1 < 2 < 3;", -114);
        due("pick if not;", -111);
        due("pick if 1 = 1 not 1 = 1;", -114);
        due("pick if 1 = 1 and;", -117);
        due("pick if 1 = 1 or or 1 = 1;", -117);
        due("pick if (1 = 1;", -114);
        due("pick if 1 = 1);", -113);
        due("pick if ();", -109);
        due("pick if ((((1 = 1))));", -111);
        due("pick if (((1 = 1))) and ((((1 = 1))));", -127);
        due("pick if wind = 1;", -108);
        due("pick if warmer = 1;", -108);
        due("pick if 1 = warmwet;", -112);
        due("pick if 1=1", -111);
        due("pick if 1=1 if 1=1;", -112);
        due("pick if pick = 1;", -108);
        due("use 1;use 2;use 3;use 4;use 5;use 0;use 1;use 2;", 8);
        due("use 1;use 2;use 3;use 4;use 5;use 0;use 1;use 2; x", -149);
    }

    private static void refused() {
        FlakeArms x = new FlakeArms();
        c.due(3, "law()", Checks.law(x, "use 4; pick if 1 = 1;"), 2);
        c.due(3, "law()", Checks.law(x, "use 3; use"), -110);
        c.due(3, "many(1)", x.many(1), 2);
        c.due(3, "many(3)", x.many(3), 0);
        c.due(3, "picks(0, 0, 0)", x.picks(0, 0, 0), 4);
        c.due(3, "picked(0)", x.picked(0), 1);
        c.due(3, "law()", x.law(), 0);
        c.due(3, "many(1)", x.many(1), 0);
        c.due(3, "picks(0, 0, 0)", x.picks(0, 0, 0), 0);
        c.due(3, "picked(0)", x.picked(0), 0);
        StringBuilder full = new StringBuilder("use 2 if");
        while (full.length() < 196) {
            full.append(" not");
        }
        full.append(" 1<0");
        c.due(3, "law() of 200 bytes", Checks.law(x, full.substring(0, 199) + "0"), -300);
        full.setLength(0);
        full.append("use 2 if 0=0");
        while (full.length() < 190) {
            full.append(" or 0=0");
        }
        full.append(";");
        c.due(3, "law() of a long COND", Checks.law(x, full.toString()), 1);
        c.due(3, "picks(0, 0, 0)", x.picks(0, 0, 0), 2);
    }

    private static void picks() {
        FlakeArms x = new FlakeArms();
        x.growth(0, 1);
        Checks.law(x, "use 1; use 2 if warm > 4; pick if 1=1; use 3 if wet = 7; use 5 if size > 6; use 0 if edge = 0;");
        c.due(23, "picks(0, 0, 0)", x.picks(0, 0, 0), 1);
        c.due(23, "picks(0, 5, 0)", x.picks(0, 5, 0), 2);
        c.due(23, "picks(0, 9, 7)", x.picks(0, 9, 7), 3);
        c.due(23, "picks(0, 9, 8)", x.picks(0, 9, 8), 2);
        x.grow(1, 0);
        c.due(23, "picks(1, 9, 7)", x.picks(1, 9, 7), 5);
        x.freeze(2, 0, 0, false);
        c.due(23, "picks(2, 9, 7)", x.picks(2, 9, 7), 0);
        c.due(23, "picks(0, 10, 0)", x.picks(0, 10, 0), -1);
        c.due(23, "picks(0, 0, 10)", x.picks(0, 0, 10), -1);
        c.due(23, "picks(0, -1, 0)", x.picks(0, -1, 0), -1);
        c.due(23, "picks(0, 0, -1)", x.picks(0, 0, -1), -1);
        c.due(23, "picks(4, 0, 0)", x.picks(4, 0, 0), -1);
        Checks.law(x, "use 1 if 1 = 2; use 2; use 3 if 1 = 2;");
        c.due(23, "picks(0, 0, 0) by a CLAUSE without COND", x.picks(0, 0, 0), 2);
        for (int i = 0; i < 60; i++) {
            Checks.law(x, "use 1 if 1=2 or 1=2 or 1=2 or 1=2 or 1=1;");
        }
        c.due(23, "picks(0, 0, 0) behind many LAWS", x.picks(0, 0, 0), 1);
        Checks.law(x, "use 4 if 1 = 2;");
        c.due(23, "picks(0, 0, 0) without one that holds", x.picks(0, 0, 0), 0);
    }

    /** Whether a COND holds for a FLAKE of SIZE 8, SPAN 3, EDGE 24, MINUTE 1 in air 2, 9. */
    private static void holds(String cond, boolean want) {
        FlakeArms x = new FlakeArms();
        x.growth(0, 1);
        x.grow(2, 0);
        x.freeze(2, 3, 0, true);
        Checks.law(x, "use 5 if " + cond + ";");
        c.due(23, "picks by " + cond, x.picks(2, 2, 9), want ? 5 : 0);
    }

    private static void conds() {
        holds("warm = 2 and wet = 9 and size = 8 and span = 3 and edge = 24 and minute = 1", true);
        holds("size < 8", false);
        holds("size > 8", false);
        holds("7 < size", true);
        holds("9 > size", true);
        holds("edge = 024", true);
        holds("edge < 999", true);
        holds("warm < wet", true);
        holds("wet < warm", false);
        holds("not wet < warm", true);
        holds("not not wet < warm", false);
        holds("not 1 = 1 or 1 = 1", true);
        holds("not (1 = 1 or 1 = 1)", false);
        holds("1 = 1 or 1 = 1 and 1 = 2", true);
        holds("(1 = 1 or 1 = 1) and 1 = 2", false);
        holds("1 = 2 and 1 = 1 or 1 = 1", true);
        holds("1 = 2 and (1 = 1 or 1 = 1)", false);
        holds("not 1 = 2 and 1 = 2", false);
        holds("1 = 2 or 1 = 2 or 1 = 1", true);
        holds("1 = 1 and 1 = 1 and 1 = 2", false);
        holds("1=2 or (1=1 and (1=2 or (1=1 and not 1=2)))", true);
        holds("0 = 0 and not (not (not (1 = 2)))", true);
    }

    private static void picked() {
        FlakeArms x = new FlakeArms();
        x.growth(0, 1);
        c.due(24, "picked(0)", x.picked(0), 0);
        Checks.law(x, "use 1; pick if size = 7; pick if span = 5; use 2 if 1 = 1;");
        c.due(24, "picked(0)", x.picked(0), 0);
        x.grow(0, 0);
        c.due(24, "picked(0)", x.picked(0), 1);
        x.freeze(0, 5, 0, true);
        c.due(24, "picked(0)", x.picked(0), 1);
        x.freeze(0, 5, 0, false);
        x.freeze(0, 4, 0, true);
        c.due(24, "picked(0)", x.picked(0), 0);
        c.due(24, "picked(4)", x.picked(4), -1);
        c.due(24, "picked(-1)", x.picked(-1), -1);
        x.picks(0, 9, 9);
        Checks.law(x, "pick if warm = 0 and wet = 0;");
        c.due(24, "picked(0) in no air", x.picked(0), 1);
        Checks.law(x, "use 1 if 1 = 1;");
        c.due(24, "picked(0) by use alone", x.picked(0), 0);
    }
}
