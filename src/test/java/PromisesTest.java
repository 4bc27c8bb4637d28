/** For each promise of the document: ordinary inputs, the edges that it names, and wrong inputs. */
public final class PromisesTest {
    private static final int NONE = ProphetLiable.NONE;
    private static final int LOW = Integer.MIN_VALUE;
    private static final int HIGH = Integer.MAX_VALUE;

    private static int promise;
    private static int asked;
    private static int wrong;

    public static void main(String[] args) {
        promise1();
        promise2();
        promise3();
        promise4();
        promise5();
        promise6();
        promise6Names();
        promise6Values();
        promise7();
        promise7Places();
        promise7Numbers();
        promise7Depth();
        promise8();
        promise9();
        promise10();
        promise11();
        promise12();
        promise13();
        promise13Laws();
        promise14();
        promise15();
        promise16();
        promise16Told();
        promise17();
        promise18();
        promise19();
        promise20();
        promise21();
        promise22();
        promise23();
        promise24();
        promise25();
        promise26();
        promise27();
        promise28();
        promise29();
        promise30();
        promise31();
        promise32();
        promise33();
        promise34();
        promise35();
        promise36();
        promise37();
        promise38();
        promise39();
        promise40();
        promise41();
        promise42();
        promise43();
        promise44();
        System.out.println(asked + " answers looked at, " + wrong + " of them wrong");
        System.exit(wrong == 0 ? 0 : 1);
    }

    // ---- help

    private static void due(String call, long got, long want) {
        asked++;
        if (got != want) {
            wrong++;
            System.out.println("promise " + promise + ": " + call + " answered " + got + ", due is " + want);
        }
    }

    private static void due(String call, boolean got, boolean want) {
        due(call, got ? 1 : 0, want ? 1 : 0);
    }

    private static void put(ProphetLiable x, String text) {
        x.end(0);
        for (int[] row : TextMaker.rows(text)) {
            x.feed(row[0], row[1], row[2], row[3], row[4]);
        }
        x.end(text.length());
    }

    private static int read(ProphetLiable x, String text) {
        put(x, text);
        return x.text();
    }

    private static void fault(String text, int kind, int place) {
        ProphetLiable x = new ProphetLiable();
        due("text() of " + text, read(x, text), kind == 0 ? 0 : NONE);
        due("fault(0) of " + text, x.fault(0), kind);
        due("fault(1) of " + text, x.fault(1), place);
    }

    private static String times(String part, int n) {
        return part.repeat(n);
    }

    /** A market with FACTS of the given ODDS, COST being 1, 2, 3 and so on. */
    private static ProphetLiable facts(int... odds) {
        ProphetLiable x = new ProphetLiable();
        for (int i = 0; i < odds.length; i++) {
            x.fact(odds[i], i + 1);
        }
        return x;
    }

    private static ProphetLiable rich(int... odds) {
        ProphetLiable x = facts(odds);
        x.prophet(9000, 0);
        x.prophet(5000, 0);
        return x;
    }

    private static int next(int x) {
        return (x * 431 + 311) % 30553;
    }

    /** What a law of dues comes to for a PROPHECY of FACTS 0 and 2 by PROPHET 1, FACT 1 being SO. */
    private static int dues(String sum) {
        ProphetLiable x = facts(0, 0, 0);
        x.prophet(50, 3);
        x.prophet(40, 7);
        x.bring(0, 1);
        x.day(2);
        x.foretell(1, true, 5, 6, 20);
        due("text() of dues " + sum, read(x, "dues " + sum + ";"), 0);
        x.by(0);
        return x.word(0, 6);
    }

    // ---- the promises

    private static void promise1() {
        promise = 1;
        ProphetLiable x = new ProphetLiable();
        for (int what = 0; what <= 8; what++) {
            due("about(" + what + ")", x.about(what), what == 3 ? NONE : 0);
        }
        due("is(0)", x.is(0), 0);
        due("is(1)", x.is(1), 191);
        due("is(2)", x.is(2), 0);
        due("is(3)", x.is(3), 0);
        due("book(NONE, 0)", x.book(NONE, 0), 0);
        x.fact(1, 1);
        x.prophet(1, 1);
        x.foretell(0, true, 1, 1, 1);
        x.day(3);
        due("back()", x.back(), 0);
        due("about(0)", x.about(0), 0);
        due("about(1)", x.about(1), 0);
        due("about(4)", x.about(4), 0);
        due("is(1)", x.is(1), 191);
        due("is(3)", x.is(3), 0);
        ProphetLiable other = new ProphetLiable();
        due("about(0) of another one", other.about(0), 0);
    }

    private static void promise2() {
        promise = 2;
        ProphetLiable x = new ProphetLiable();
        due("fact(-1, 0)", x.fact(-1, 0), NONE);
        due("fact(11, 0)", x.fact(11, 0), NONE);
        due("fact(0, -1)", x.fact(0, -1), NONE);
        due("fact(0, 100)", x.fact(0, 100), NONE);
        due("fact(LOW, HIGH)", x.fact(LOW, HIGH), NONE);
        for (int i = 0; i < 8; i++) {
            due("fact", x.fact(i + 3, i * 14), i < 8 ? i : NONE);
        }
        due("fact, the ninth", x.fact(0, 0), NONE);
        due("about(0)", x.about(0), 8);
        due("ofFact(7, 0)", x.ofFact(7, 0), 10);
        due("ofFact(7, 1)", x.ofFact(7, 1), 98);
        due("ofFact(0, 2)", x.ofFact(0, 2), 0);
        x = new ProphetLiable();
        due("fact(0, 99)", x.fact(0, 99), 0);
        due("fact(10, 0)", x.fact(10, 0), 1);
        due("about(4): no STEP", x.about(4), 0);
    }

    private static void promise3() {
        promise = 3;
        ProphetLiable x = new ProphetLiable();
        due("prophet(-1, 0)", x.prophet(-1, 0), NONE);
        due("prophet(10000, 0)", x.prophet(10000, 0), NONE);
        due("prophet(0, -1)", x.prophet(0, -1), NONE);
        due("prophet(0, 100)", x.prophet(0, 100), NONE);
        due("prophet(9999, 99)", x.prophet(9999, 99), 0);
        due("prophet(0, 0)", x.prophet(0, 0), 1);
        due("prophet(2, 2)", x.prophet(2, 2), 2);
        due("prophet(3, 3)", x.prophet(3, 3), 3);
        due("prophet(4, 4)", x.prophet(4, 4), 4);
        due("prophet, the sixth", x.prophet(5, 5), NONE);
        due("about(1)", x.about(1), 5);
        due("of(0, 0)", x.of(0, 0), 9999);
        due("of(0, 1)", x.of(0, 1), 99);
        due("of(0, 2)", x.of(0, 2), 0);
        due("about(4): no STEP", x.about(4), 0);
    }

    private static void promise4() {
        promise = 4;
        ProphetLiable x = new ProphetLiable();
        // "day 1 ; fact 2 cost " with the highest byte of each first.
        due("feed", x.feed(0x64617920, 0x31203b20, 0x66616374, 0x20322063, 0x6f737420), 20);
        due("feed", x.feed(0x333b2020, 0x20202020, 0x20202020, 0x20202020, 0x20202020), 40);
        due("text()", x.text(), 0);
        due("played(0)", x.played(0), NONE);
        due("ofFact(0, 0)", x.ofFact(0, 0), 2);
        due("ofFact(0, 1)", x.ofFact(0, 1), 3);
        due("is(0)", x.is(0), 1);
        for (int i = 1; i <= 15; i++) {
            due("feed", x.feed(HIGH, LOW, -1, 0, 1), 20 * i);
        }
        due("feed beyond 300", x.feed(0, 0, 0, 0, 0), NONE);
        due("about(8)", x.about(8), 300);
        due("end(281)", x.end(281), 281);
        due("feed beyond 300", x.feed(0, 0, 0, 0, 0), NONE);
        due("about(8)", x.about(8), 281);
        due("end(280)", x.end(280), 280);
        due("feed", x.feed(0, 0, 0, 0, 0), 300);
    }

    private static void promise5() {
        promise = 5;
        ProphetLiable x = new ProphetLiable();
        due("end(0)", x.end(0), 0);
        due("end(1)", x.end(1), NONE);
        x.feed(0x64617920, 0x31203b78, 0, 0, 0);
        due("end(-1)", x.end(-1), NONE);
        due("end(21)", x.end(21), NONE);
        due("end(HIGH)", x.end(HIGH), NONE);
        due("end(LOW)", x.end(LOW), NONE);
        due("about(8)", x.about(8), 20);
        due("end(20)", x.end(20), 20);
        due("end(7)", x.end(7), 7);
        due("end(8)", x.end(8), NONE);
        due("text()", x.text(), 0);
    }

    private static void promise6() {
        promise = 6;
        ProphetLiable x = new ProphetLiable();
        due("text() of nothing", x.text(), 0);
        due("fault(0)", x.fault(0), 0);
        due("fault(1)", x.fault(1), NONE);
        due("text() of blanks", read(x, " \n  \n"), 1);
        due("text() with a FAULT", read(x, "day 0;"), NONE);
        due("about(8): the tape is empty then", x.about(8), 0);
        due("about(2)", x.about(2), 2);
        due("text()", read(x, "fact10cost99;prophet 9999 fame 99;foretell 4 any 7,7,0 in 99 fee 999;"
            + "foretell 0 all 0 in 1 fee 0;\nbring 7 by 4;spoil 0 by 0;sell 11 to 4 price 999;day 60;day 1;"), 2);
        due("about(8)", x.about(8), 0);
        due("text()", read(x, "comes 1;dues 2;renown 3;"), 3);
        put(x, "day 1;");
        due("text(), the fifth", x.text(), NONE);
        due("about(8): the tape stays", x.about(8), 6);
        due("fault(0): it was not read", x.fault(0), 0);
        due("about(2)", x.about(2), 4);
        x = new ProphetLiable();
        due("text() of 24 CLAUSES", read(x, times("day 1;", 24)), 0);
        due("played(0)", x.played(0), NONE);
        due("is(0)", x.is(0), 24);
        String most = "comes " + times("9+", 146) + "5;";
        due("its length", most.length(), 300);
        due("text() of 300 bytes", read(x, most), 1);
    }

    private static void promise6Names() {
        promise = 6;
        due("day", dues("day"), 2);
        due("many", dues("many"), 1);
        due("who", dues("who"), 1);
        due("fame", dues("fame"), 7);
        due("purse", dues("purse"), 60);
        due("fee", dues("fee"), 20);
        due("facts", dues("facts"), 2);
        due("due", dues("due"), 6);
        ProphetLiable x = facts(3, 9);
        x.prophet(99, 0);
        x.bring(0, 0);
        x.day(1);
        due("text()", read(x, "comes fact * 4 + odds - cost * many + day;"), 0);
        x.by(0);
        due("comes of FACT 1", x.ofFact(1, 3), Math.min(10, 4 + 9 - 2 * Integer.bitCount(x.is(2)) + 1));
    }

    private static void promise6Values() {
        promise = 6;
        due("from the left", dues("100 - 10 - 1"), 89);
        due("from the left", dues("100 / 7 * 7"), 98);
        due("PRODUCT first", dues("2 + 3 * 4"), 14);
        due("( )", dues("(2 + 3) * 4"), 20);
        due("- of one", dues("10 - - 3"), 13);
        due("- of one", dues("- 3 + 10"), 7);
        due("- binds ONE", dues("- 2 * - 3"), 6);
        due("/ cuts towards 0", dues("(0 - 7) / 2 + 10"), 7);
        due("/ by 0", dues("7 / 0 + 3"), 3);
        due("percent", dues("percent 1 of 3"), 33);
        due("percent cuts towards 0", dues("percent - 1 of 3 + 100"), 67);
        due("percent of 0", dues("percent 5 of 0 + 4"), 4);
        due("percent takes ONE", dues("percent 1 of 4 * 2"), 50);
        due("percent in percent", dues("percent percent 1 of 2 of 200"), 25);
        due("so", dues("so 1 * 10 + so 0 + so 8 + so - 1 + so 9999"), 10);
        due("so takes ONE", dues("so 0 + 1"), 1);
        due("so of so", dues("so so 1"), 1);
        due("if then", dues("if 1 < 2 then 5 else 6 end"), 5);
        due("if else", dues("if 2 < 1 then 5 else 6 end"), 6);
        due("if is ONE", dues("if 2 < 1 then 5 else 6 end * 2"), 12);
        due("<=", dues("if 2 <= 2 then 1 else 0 end"), 1);
        due(">", dues("if 2 > 2 then 1 else 0 end"), 0);
        due(">=", dues("if 2 >= 2 then 1 else 0 end"), 1);
        due("=", dues("if 2 = 2 then 1 else 0 end"), 1);
        due("#", dues("if 2 # 2 then 1 else 0 end"), 0);
        due("<", dues("if 2 < 2 then 1 else 0 end"), 0);
        due("not", dues("if not 2 < 2 then 1 else 0 end"), 1);
        due("not not", dues("if not not 2 < 2 then 1 else 0 end"), 0);
        due("and binds more than or", dues("if 1=1 or 1=1 and 1=2 then 1 else 0 end"), 1);
        due("and binds more than or", dues("if 1=2 and 1=1 or 1=1 then 1 else 0 end"), 1);
        due("not binds an ASK", dues("if not 1=2 and 1=2 then 1 else 0 end"), 0);
        due("or", dues("if 1=2 or 2=1 then 1 else 0 end"), 0);
        due("the longest TOKEN", dues("if 2<=2then 1 else 0 end"), 1);
        due("above 1000000 at each step", dues("9999 * 9999 - 999 * 1000"), 1000);
        due("below -1000000 at each step", dues("(0 - 9999) * 9999 + 1000 * 1000 + 4"), 4);
        due("above 1000000 at + too", dues("1000 * 1000 + 5 - 1000 * 999"), 1000);
        due("above 1000000 at percent", dues("percent (9999 * 100) of 1 / 200"), 5000);
        due("percent is one step", dues("percent (9999 * 100) of 1000 / 10"), 9999);
        due("above 9999", dues("9999 + 1"), 9999);
        due("below 0", dues("0 - 1"), 0);
        due("leading zeros", dues("0000000000000000012"), 12);
    }

    private static void promise7() {
        promise = 7;
        ProphetLiable x = new ProphetLiable();
        due("fault(0) ahead of any", x.fault(0), NONE);
        due("fault(1) ahead of any", x.fault(1), NONE);
        read(x, "day 1;");
        due("fault(0)", x.fault(0), 0);
        due("fault(1)", x.fault(1), NONE);
        due("fault(2)", x.fault(2), NONE);
        due("fault(-1)", x.fault(-1), NONE);
        read(x, "day 61;");
        due("fault(0)", x.fault(0), 2);
        due("fault(1)", x.fault(1), 4);
        due("fault(2)", x.fault(2), NONE);
        due("back()", x.back(), 0);
        due("fault(0): the IMAGE hasn't it", x.fault(0), 2);
        read(x, "day 60;");
        due("fault(0)", x.fault(0), 0);
    }

    private static void promise7Places() {
        promise = 7;
        fault("day", 1, 3);
        fault("day  ", 1, 5);
        fault("day 1", 1, 5);
        fault("day 1;;", 1, 6);
        fault("day ;", 1, 4);
        fault("\n many 1;", 1, 2);
        fault("Day 1;", 1, 0);
        fault("days 1;", 1, 0);
        fault("12345 ;", 1, 0);
        fault("day\t1;", 1, 3);
        fault("day 1;\u0000", 1, 6);
        fault("day 1;\u00ff", 1, 6);
        fault("comes ;", 1, 6);
        fault("comes 1 2;", 1, 8);
        fault("comes 1 12345;", 1, 8);
        fault("comes 1 +;", 1, 9);
        fault("comes (1;", 1, 8);
        fault("comes 1);", 1, 7);
        fault("comes percent 1 2;", 1, 16);
        fault("comes if 1 then 1 else 2 end;", 1, 11);
        fault("comes if 1<2 else 1;", 1, 13);
        fault("comes if 1<2 then 1 end;", 1, 20);
        fault("comes if 1<2 then 1 else 2;", 1, 26);
        fault("comes if 1<2<3 then 1 else 2 end;", 1, 12);
        fault("comes if (1<2) then 1 else 2 end;", 1, 11);
        fault("comes not 1;", 1, 6);
        fault("comes 1 < 2;", 1, 8);
        fault("comes 1 =< 2;", 1, 8);
        fault("comes + 1;", 1, 6);
        fault("foretell 0 some 1 in 1 fee 1;", 1, 11);
        fault("foretell 0 any in 1 fee 1;", 1, 15);
        fault("foretell 0 any 1, in 1 fee 1;", 1, 18);
        fault("fact 1 fame 1;", 1, 7);
        fault("prophet 1 cost 1;", 1, 10);
        fault("bring 1 to 1;", 1, 8);
        fault("sell 1 by 1 price 1;", 1, 7);
        fault("comes 1; comes 2;", 4, 9);
        fault("dues 1;renown 1;dues 2;", 4, 16);
        fault("renown 1;day 1;renown", 4, 15);
        fault("comes comes;", 1, 6);
        fault("comes fame;", 5, 6);
        fault("comes who;", 5, 6);
        fault("comes purse;", 5, 6);
        fault("comes fee;", 5, 6);
        fault("comes facts;", 5, 6);
        fault("comes due;", 5, 6);
        fault("dues fact;", 5, 5);
        fault("dues odds;", 5, 5);
        fault("renown 1 + cost;", 5, 11);
        fault("comes 1 fame;", 1, 8);
        fault("day many;", 1, 4);
        fault(times("day 1;", 24) + "day", 6, 144);
        fault(times("day 1;", 24) + " 5", 1, 145);
        fault(times("day 1;", 23) + "dues 1;dues", 4, 145);
        fault("foretell 0 any 0,1,2,3,4,5,6,7 in 1 fee 1;", 0, NONE);
        fault("foretell 0 any 0,1,2,3,4,5,6,7,0 in 1 fee 1;", 7, 30);
        fault("foretell 0 all 0,0,0,0,0,0,0,0 , 9", 7, 31);
        fault("day 61; comes fame", 2, 4);
    }

    private static void promise7Numbers() {
        promise = 7;
        fault("fact 11 cost 0;", 2, 5);
        fault("fact 10 cost 100;", 2, 13);
        fault("prophet 10000 fame 0;", 2, 8);
        fault("prophet 9999 fame 100;", 2, 18);
        fault("foretell 5 any 0 in 1 fee 1;", 2, 9);
        fault("foretell 4 any 8 in 1 fee 1;", 2, 15);
        fault("foretell 4 all 7,8 in 1 fee 1;", 2, 17);
        fault("foretell 4 any 7 in 0 fee 1;", 2, 20);
        fault("foretell 4 any 7 in 100 fee 1;", 2, 20);
        fault("foretell 4 any 7 in 99 fee 1000;", 2, 27);
        fault("bring 8 by 0;", 2, 6);
        fault("bring 7 by 5;", 2, 11);
        fault("spoil 8 by 0;", 2, 6);
        fault("spoil 7 by 5;", 2, 11);
        fault("sell 12 to 0 price 0;", 2, 5);
        fault("sell 11 to 5 price 0;", 2, 11);
        fault("sell 11 to 4 price 1000;", 2, 19);
        fault("day 0;", 2, 4);
        fault("day 61;", 2, 4);
        fault("comes 9999;", 0, NONE);
        fault("comes 10000;", 2, 6);
        fault("comes 99999999999999999999999;", 2, 6);
        fault("comes 1 + so 4294967296;", 2, 13);
    }

    private static void promise7Depth() {
        promise = 7;
        fault("comes " + times("(", 8) + "1" + times(")", 8) + ";", 0, NONE);
        fault("comes " + times("(", 9) + "1" + times(")", 9) + ";", 3, 14);
        fault("comes " + times("-", 8) + "1;", 0, NONE);
        fault("comes " + times("-", 9) + "1;", 3, 14);
        fault("comes " + times("so ", 8) + "1;", 0, NONE);
        fault("comes " + times("so ", 9) + "1;", 3, 30);
        fault("comes " + times("percent 1 of ", 8) + "1;", 0, NONE);
        fault("comes " + times("percent 1 of ", 9) + "1;", 3, 110);
        fault("comes " + times("percent ", 9), 3, 70);
        fault("comes " + times("if ", 9), 3, 30);
        fault("comes if " + times("not ", 7) + "1=1 then 1 else 2 end;", 0, NONE);
        fault("comes if " + times("not ", 8) + "1=1 then 1 else 2 end;", 3, 37);
        fault("comes if not 1=1 and " + times("not ", 7) + "1=1 then 1 else 2 end;", 0, NONE);
        fault("comes " + times("(", 7) + "(1)+(2)*-3" + times(")", 7) + ";", 0, NONE);
        fault("comes " + times("(", 7) + "percent (1) of 1" + times(")", 7) + ";", 3, 21);
        fault("comes " + times("(", 7) + "percent 1 of (1)" + times(")", 7) + ";", 3, 26);
        fault("comes " + times("(", 7) + "percent 1 of 1 + (1)" + times(")", 7) + ";", 0, NONE);
        fault("comes " + times("(", 8) + "1 - 1" + times(")", 8) + ";", 0, NONE);
        fault("comes " + times("(", 8) + "not", 1, 14);
    }

    private static void promise8() {
        promise = 8;
        ProphetLiable x = facts(4);
        due("by(0)", x.by(0), false);
        due("by(NONE)", x.by(NONE), true);
        read(x, "comes 7;");
        read(x, "comes 8;");
        due("about(3): none yet", x.about(3), NONE);
        due("ofFact(0, 3)", x.ofFact(0, 3), 4);
        due("by(1)", x.by(1), true);
        due("ofFact(0, 3)", x.ofFact(0, 3), 8);
        due("by(2)", x.by(2), false);
        due("by(-2)", x.by(-2), false);
        due("by(HIGH)", x.by(HIGH), false);
        due("about(3)", x.about(3), 1);
        due("by(0)", x.by(0), true);
        due("ofFact(0, 3)", x.ofFact(0, 3), 7);
        due("by(NONE)", x.by(NONE), true);
        due("about(3)", x.about(3), NONE);
        due("ofFact(0, 3)", x.ofFact(0, 3), 4);
        due("about(4): no STEP", x.about(4), 0);
    }

    private static void promise9() {
        promise = 9;
        ProphetLiable x = facts(0, 0);
        due("foretell: nobody", x.foretell(0, true, 1, 1, 1), NONE);
        x.prophet(9500, 0);
        x.prophet(0, 0);
        due("foretell of none", x.foretell(0, true, 0, 1, 1), NONE);
        due("foretell of others", x.foretell(0, true, 4, 1, 1), NONE);
        due("foretell of others", x.foretell(0, true, -1, 1, 1), NONE);
        due("foretell in 0", x.foretell(0, true, 1, 0, 1), NONE);
        due("foretell in 100", x.foretell(0, true, 1, 100, 1), NONE);
        due("foretell for -1", x.foretell(0, true, 1, 1, -1), NONE);
        due("foretell for 1000", x.foretell(0, true, 1, 1, 1000), NONE);
        due("foretell by -1", x.foretell(-1, true, 1, 1, 1), NONE);
        due("foretell by 2", x.foretell(2, true, 1, 1, 1), NONE);
        due("about(4)", x.about(4), 0);
        x.day(1);
        due("foretell", x.foretell(0, true, 3, 99, 999), 0);
        due("of(0, 0): 9999 at most", x.of(0, 0), 9999);
        due("word(0, 0)", x.word(0, 0), 0);
        due("word(0, 1)", x.word(0, 1), 1);
        due("word(0, 2)", x.word(0, 2), 3);
        due("word(0, 3)", x.word(0, 3), 100);
        due("word(0, 4)", x.word(0, 4), 999);
        due("word(0, 5)", x.word(0, 5), 0);
        due("about(4)", x.about(4), 2);
        for (int i = 1; i < 12; i++) {
            due("foretell", x.foretell(1, false, 1 + i % 3, 99, 0), i);
        }
        due("foretell, the 13th", x.foretell(1, false, 1, 1, 1), NONE);
        due("is(3)", x.is(3), 12);
        x = facts(0);
        x.prophet(0, 0);
        x.prophet(0, 0);
        x.foretell(0, true, 1, 1, 5);
        x.day(2);
        due("ruined()", x.ruined(), 1);
        due("foretell by one RUINED", x.foretell(0, true, 1, 1, 5), NONE);
        due("foretell by another", x.foretell(1, true, 1, 1, 5), 1);
    }

    private static void promise10() {
        promise = 10;
        ProphetLiable x = new ProphetLiable();
        x.fact(0, 10);
        x.fact(0, 0);
        due("bring: nobody", x.bring(0, 0), false);
        x.prophet(10, 0);
        x.prophet(9, 0);
        due("bring(1, 0): too dear", x.bring(1, 0), false);
        due("bring(0, 2)", x.bring(0, 2), false);
        due("bring(0, -1)", x.bring(0, -1), false);
        due("bring(0, 32)", x.bring(0, 32), false);
        due("bring(2, 0)", x.bring(2, 0), false);
        due("bring(-1, 0)", x.bring(-1, 0), false);
        due("about(4)", x.about(4), 0);
        due("bring(0, 0)", x.bring(0, 0), true);
        due("of(0, 0)", x.of(0, 0), 0);
        due("is(2)", x.is(2), 1);
        due("bring(0, 0) again", x.bring(0, 0), false);
        due("bring(0, 1) for nothing", x.bring(0, 1), true);
        due("is(2)", x.is(2), 3);
        due("about(4)", x.about(4), 2);
        due("is(0)", x.is(0), 0);
        due("is(1)", x.is(1), 191);
        x = facts(0, 0);
        x.prophet(100, 0);
        x.foretell(0, true, 1, 1, 50);
        x.day(2);
        due("of(0, 2)", x.of(0, 2), 1);
        due("of(0, 0)", x.of(0, 0), 0);
        due("bring by one RUINED without a purse", x.bring(0, 1), false);
    }

    private static void promise11() {
        promise = 11;
        ProphetLiable x = new ProphetLiable();
        x.fact(0, 10);
        x.prophet(19, 0);
        x.prophet(10, 0);
        due("spoil(0, 0): not SO", x.spoil(0, 0), false);
        x.bring(0, 0);
        due("spoil(0, 0): too dear", x.spoil(0, 0), false);
        due("spoil(0, 1)", x.spoil(0, 1), false);
        due("spoil(0, -1)", x.spoil(0, -1), false);
        due("spoil(1, 32)", x.spoil(1, 32), false);
        due("spoil(2, 0)", x.spoil(2, 0), false);
        due("spoil(-1, 0)", x.spoil(-1, 0), false);
        due("about(4)", x.about(4), 1);
        due("spoil(1, 0)", x.spoil(1, 0), true);
        due("of(1, 0)", x.of(1, 0), 0);
        due("of(0, 0)", x.of(0, 0), 9);
        due("is(2)", x.is(2), 0);
        due("about(4)", x.about(4), 2);
        due("spoil(1, 0) again", x.spoil(1, 0), false);
    }

    private static void promise12() {
        promise = 12;
        ProphetLiable x = facts(0, 0);
        x.prophet(100, 0);
        x.prophet(9990, 0);
        x.prophet(0, 0);
        due("sell: none", x.sell(0, 1, 0), false);
        x.foretell(0, true, 1, 5, 0);
        x.foretell(2, true, 1, 1, 1);
        due("sell(0, 0, 1): to itself", x.sell(0, 0, 1), false);
        due("sell(0, 3, 1)", x.sell(0, 3, 1), false);
        due("sell(0, -1, 1)", x.sell(0, -1, 1), false);
        due("sell(2, 1, 1)", x.sell(2, 1, 1), false);
        due("sell(-1, 1, 1)", x.sell(-1, 1, 1), false);
        due("sell(0, 1, -1)", x.sell(0, 1, -1), false);
        due("sell(0, 1, 101): it hasn't so much", x.sell(0, 1, 101), false);
        due("about(4)", x.about(4), 2);
        due("book(NONE, 0)", x.book(NONE, 0), 0);
        due("sell(0, 1, 100)", x.sell(0, 1, 100), true);
        due("of(0, 0)", x.of(0, 0), 0);
        due("of(1, 0): 9999 at most", x.of(1, 0), 9999);
        due("word(0, 0)", x.word(0, 0), 1);
        due("book(0, 0)", x.book(0, 0), 0);
        due("book(0, 1)", x.book(0, 1), 0);
        due("book(0, 2)", x.book(0, 2), 2);
        due("book(0, 3)", x.book(0, 3), 100);
        due("about(4)", x.about(4), 3);
        due("sell(0, 0, 1000)", x.sell(0, 0, 1000), false);
        due("sell(0, 0, 999)", x.sell(0, 0, 999), true);
        due("sell(0, 1, 0)", x.sell(0, 1, 0), true);
        x.day(2);
        due("ruined()", x.ruined(), 4);
        due("sell(0, 2, 0): to one RUINED", x.sell(0, 2, 0), false);
        due("sell(1, 0, 0): it failed", x.sell(1, 0, 0), false);
        x.bring(1, 0);
        x.day(1);
        due("word(0, 5)", x.word(0, 5), 1);
        due("sell(0, 0, 0): it came true", x.sell(0, 0, 0), false);
        x = facts(0, 0);
        x.prophet(0, 0);
        x.prophet(9, 0);
        x.foretell(0, true, 1, 1, 1);
        x.foretell(0, true, 2, 50, 0);
        x.day(2);
        due("ruined()", x.ruined(), 1);
        due("sell(1, 1, 0) by one RUINED", x.sell(1, 1, 0), true);
    }

    private static void promise13() {
        promise = 13;
        ProphetLiable x = facts(0, 10, 5);
        x.prophet(100, 98);
        x.prophet(30, 0);
        due("day(0)", x.day(0), NONE);
        due("day(61)", x.day(61), NONE);
        due("day(-1)", x.day(-1), NONE);
        due("is(0)", x.is(0), 0);
        x.foretell(0, true, 1, 2, 4);
        x.foretell(0, false, 3, 9, 0);
        x.foretell(1, true, 1, 1, 3);
        // FACTS 0, 1, 2 draw 1, 6, 8 of X 191, 21526, 20458: of these 6 alone is below its ODDS.
        due("day(1)", x.day(1), 1);
        due("is(1)", x.is(1), next(next(next(191))));
        due("is(2)", x.is(2), 2);
        due("is(0)", x.is(0), 1);
        due("of(0, 1): 99 at most", x.of(0, 1), 99);
        due("book(0, 3): renown", x.book(0, 3), 2);
        // Not due yet: DAY was 0 then. Now it is 1.
        due("word(2, 5)", x.word(2, 5), 0);
        due("day(1)", x.day(1), 1);
        due("word(2, 5)", x.word(2, 5), 2);
        due("of(1, 0): all that was due", x.of(1, 0), 3);
        due("of(1, 2): it isn't RUINED by that", x.of(1, 2), 0);
        due("book(1, 0)", x.book(1, 0), 1);
        due("book(1, 3)", x.book(1, 3), 30);
        due("day(60)", x.day(60), 1);
        due("is(0)", x.is(0), 62);
        due("book(2, 0)", x.book(2, 0), 2);
        due("of(0, 0)", x.of(0, 0), 104 - 40);
        x = facts(10);
        due("day(5) without PROPHECIES", x.day(5), 0);
        due("is(1): a FACT that is SO draws no more", x.is(1), next(191));
        for (int i = 0; i < 166; i++) {
            x.day(60);
        }
        due("is(0)", x.is(0), 9965);
        due("day(35): beyond 9999", x.day(35), NONE);
        due("is(0)", x.is(0), 9965);
        due("day(34)", x.day(34), 0);
        due("is(0)", x.is(0), 9999);
        due("day(1) at 9999", x.day(1), NONE);
        due("about(4)", x.about(4), 30);
    }

    private static void promise13Laws() {
        promise = 13;
        // comes sees what came about just ahead of it on the same DAY.
        ProphetLiable x = facts(0, 0, 0);
        read(x, "comes if fact = 0 then 10 else many * 10 end;");
        x.by(0);
        x.day(1);
        due("is(2)", x.is(2), 7);
        x = facts(10, 10);
        read(x, "comes 0 - 5; dues 77; renown purse;");
        x.by(0);
        x.prophet(200, 1);
        x.prophet(50, 1);
        x.foretell(0, true, 1, 1, 1);
        x.foretell(1, true, 2, 1, 1);
        due("ofFact(0, 3): 0 at least", x.ofFact(0, 3), 0);
        due("day(2)", x.day(2), 2);
        due("is(2)", x.is(2), 0);
        due("of(0, 0)", x.of(0, 0), 124);
        due("of(1, 0): PURSE at most", x.of(1, 0), 0);
        due("ruined()", x.ruined(), 2);
        due("book(1, 3): what was paid", x.book(1, 3), 51);
        x.bring(0, 0);
        x.foretell(0, true, 1, 1, 0);
        x.day(1);
        due("of(0, 1): renown is 99 at most", x.of(0, 1), 99);
        due("book(2, 3)", x.book(2, 3), 99);
        due("ledger(0)", x.ledger(0), 99);
        // The second one pays out of what the first has left.
        x = facts(0);
        x.prophet(100, 0);
        read(x, "dues purse / 2 + 10;");
        x.by(0);
        x.foretell(0, true, 1, 1, 0);
        x.foretell(0, false, 1, 1, 0);
        x.day(2);
        due("book(0, 3)", x.book(0, 3), 60);
        due("book(1, 3)", x.book(1, 3), 30);
        due("of(0, 0)", x.of(0, 0), 10);
    }

    private static void promise14() {
        promise = 14;
        ProphetLiable x = new ProphetLiable();
        due("played(0)", x.played(0), -2);
        due("played(NONE)", x.played(NONE), -2);
        read(x, "comes 3; fact 2 cost 5; prophet 100 fame 4; dues 9; prophet 7 fame 8;"
            + "foretell 0 all 0 in 3 fee 11; bring 0 by 0; sell 0 to 1 price 2; spoil 0 by 1; day 2;");
        due("played(0)", x.played(0), NONE);
        due("played(1)", x.played(1), -2);
        due("played(4)", x.played(4), -2);
        due("about(0)", x.about(0), 1);
        due("about(1)", x.about(1), 2);
        due("of(0, 0)", x.of(0, 0), 100 + 11 - 5 - 2);
        due("of(1, 0)", x.of(1, 0), 7 + 2 - 5);
        due("word(0, 0)", x.word(0, 0), 1);
        due("word(0, 1)", x.word(0, 1), 1);
        due("is(0)", x.is(0), 2);
        due("about(3): playing doesn't make it rule", x.about(3), NONE);
        due("about(4): each is a STEP", x.about(4), 6);
        read(x, "dues 1; bring 0 by 0; bring 0 by 0; day 5;");
        int so = x.is(2);
        due("played(1): the number among all CLAUSES", x.played(1), so == 1 ? 1 : 2);
        due("is(2): what was done stays", x.is(2), 1);
        due("is(0)", x.is(0), 2);
        read(x, "");
        due("played(2) of nothing", x.played(2), NONE);
        x = new ProphetLiable();
        read(x, times("day 60;", 23));
        read(x, "day 50; day 60; day 1;");
        for (int i = 0; i < 7; i++) {
            due("played(0)", x.played(0), NONE);
        }
        due("is(0)", x.is(0), 9660);
        x.day(60);
        x.day(60);
        x.day(60);
        x.day(60);
        x.day(20);
        due("played(1): of so many DAYS those that can pass do", x.played(1), 1);
        due("is(0)", x.is(0), 9999);
        due("played(1)", x.played(1), 0);
        x = facts(1, 1, 1, 1, 1, 1, 1, 1);
        read(x, "foretell 0 any 0 in 1 fee 1;");
        due("played(0) without a PROPHET", x.played(0), 0);
        read(x, "fact 1 cost 1;");
        due("played(1), the ninth FACT", x.played(1), 0);
        read(x, times("prophet 1 fame 1;", 6));
        due("played(2), the sixth PROPHET", x.played(2), 5);
        due("about(1)", x.about(1), 5);
        read(x, "foretell 0 any 0,7,0 in 1 fee 1;");
        due("played(3)", x.played(3), NONE);
        due("word(0, 2)", x.word(0, 2), 129);
        due("word(0, 1)", x.word(0, 1), 0);
    }

    private static void promise15() {
        promise = 15;
        ProphetLiable x = new ProphetLiable();
        due("years(-1, 1)", x.years(-1, 1), NONE);
        due("years(10000, 1)", x.years(10000, 1), NONE);
        due("years(0, 0)", x.years(0, 0), NONE);
        due("years(0, 41)", x.years(0, 41), NONE);
        due("about(4)", x.about(4), 0);
        // 191 mod 6 is 5: a DAY.
        due("years(0, 1)", x.years(0, 1), 1);
        due("is(1)", x.is(1), next(191));
        due("about(4)", x.about(4), 1);
        due("undo()", x.undo(), 0);
        due("is(1)", x.is(1), 191);
        due("is(0)", x.is(0), 0);
        // SEED 1: 193 mod 6 is 1: FORETOLD, by nobody here; that is a STEP, too.
        due("years(1, 1)", x.years(1, 1), 0);
        due("is(3)", x.is(3), 0);
        due("is(1)", x.is(1), next(193));
        due("about(4)", x.about(4), 1);
        x = facts(0, 0, 0);
        x.prophet(500, 0);
        x.prophet(500, 0);
        due("years(1, 1)", x.years(1, 1), 0);
        due("is(3)", x.is(3), 1);
        due("word(0, 0)", x.word(0, 0), 1);
        due("word(0, 1)", x.word(0, 1), 0);
        due("word(0, 2)", x.word(0, 2), 1 << 193 % 3 | 1 << 32 % 3);
        due("word(0, 3)", x.word(0, 3), 1 + 193 % 9);
        due("word(0, 4)", x.word(0, 4), 193 % 50);
        due("of(1, 0)", x.of(1, 0), 543);
        // x of SEED s is 2 s + 191, which is odd: 2 and 4 and all come by later draws alone.
        int seed = 0;
        while (next(2 * seed + 191) % 12 != 0 || (2 * seed + 191) % 6 != 5) {
            seed++;
        }
        x = facts(0, 0, 0);
        x.prophet(500, 0);
        int first = 2 * seed + 191;
        int then = next(next(next(next(first))));
        due("years: a DAY and another one", x.years(seed, 1), 1);
        due("is(1): three draws", x.is(1), then);
        seed = seedFor(2);
        x = facts(0, 0, 0);
        x.prophet(500, 0);
        due("years: FORETOLD and BROUGHT ABOUT", x.years(seed, 2), 0);
        int second = next(2 * seed + 191);
        due("is(2)", x.is(2), 1 << second / 6 % 3);
        due("of(0, 0)", x.of(0, 0), 500 + (2 * seed + 191) % 50 - (second / 6 % 3 + 1));
        due("about(4)", x.about(4), 1);
        due("years(9999, 40)", x.years(9999, 40) >= 0, true);
        yearsOfSpoiling();
        yearsOfNobody();
    }

    /** A SEED whose first turn is FORETOLD and whose second one is of a kind. */
    private static int seedFor(int kind) {
        for (int seed = 0; seed <= 9999; seed++) {
            int x = 2 * seed + 191;
            if (x % 6 == 1 && next(x) % 6 == kind) {
                return seed;
            }
        }
        throw new IllegalStateException();
    }

    private static void yearsOfSpoiling() {
        for (int seed = 0; seed < 400; seed++) {
            int first = 2 * seed + 191;
            if (first % 6 != 3) {
                continue;
            }
            ProphetLiable x = facts(0, 0, 0);
            x.prophet(500, 0);
            x.bring(0, 0);
            x.bring(0, 1);
            x.bring(0, 2);
            boolean spoils = first % 5 == 0;
            due("years(" + seed + ", 1)", x.years(seed, 1), 0);
            due("is(1)", x.is(1), next(first));
            due("is(2)", x.is(2), spoils ? 7 & ~(1 << first / 6 % 3) : 7);
        }
    }

    /** With neither a FACT nor a PROPHET the DAYS are those whose x mod 6 is 4 or 5, and no others. */
    private static void yearsOfNobody() {
        due("years(2, 6) of nobody", new ProphetLiable().years(2, 6), 1);
        for (int seed = 0; seed <= 9999; seed += 101) {
            int drawn = 2 * seed + 191;
            int days = 0;
            for (int i = 0; i < 40; i++) {
                days += drawn % 6 > 3 ? 1 : 0;
                drawn = next(drawn);
            }
            ProphetLiable x = new ProphetLiable();
            due("years(" + seed + ", 40) of nobody", x.years(seed, 40), days);
            due("is(1)", x.is(1), drawn);
        }
    }

    private static void promise16() {
        promise = 16;
        ProphetLiable x = facts(0, 10);
        x.prophet(100, 5);
        x.prophet(9, 9);
        due("undo()", x.undo(), NONE);
        x.foretell(0, true, 1, 1, 4);
        x.bring(0, 1);
        x.spoil(0, 1);
        x.sell(0, 1, 3);
        x.day(2);
        x.years(7, 9);
        due("about(4)", x.about(4), 7);
        due("undo() of YEARS", x.undo(), 6);
        due("is(0)", x.is(0), 2);
        due("ruined()", x.ruined(), 2);
        due("undo() of a DAY", x.undo(), 5);
        due("is(0)", x.is(0), 1);
        due("ruined()", x.ruined(), 0);
        due("of(1, 0)", x.of(1, 0), 12);
        due("word(0, 5)", x.word(0, 5), 0);
        due("book(NONE, 0)", x.book(NONE, 0), 1);
        due("is(2)", x.is(2), 2);
        due("undo() of a DAY", x.undo(), 4);
        due("is(1)", x.is(1), 191);
        due("is(2)", x.is(2), 0);
        due("undo() of SOLD", x.undo(), 3);
        due("word(0, 0)", x.word(0, 0), 0);
        due("of(0, 0)", x.of(0, 0), 100);
        due("of(1, 0)", x.of(1, 0), 9);
        due("book(NONE, 0)", x.book(NONE, 0), 0);
        due("undo() of SPOILT", x.undo(), 2);
        due("is(2)", x.is(2), 2);
        due("undo() of BROUGHT ABOUT", x.undo(), 1);
        due("is(2)", x.is(2), 0);
        due("of(0, 0)", x.of(0, 0), 104);
        due("undo() of FORETOLD", x.undo(), 0);
        due("is(3)", x.is(3), 0);
        due("of(0, 0)", x.of(0, 0), 100);
        due("undo()", x.undo(), NONE);
        x.day(31);
        due("about(4)", x.about(4), 30);
        for (int i = 29; i >= 0; i--) {
            due("undo()", x.undo(), i);
        }
        due("undo()", x.undo(), NONE);
        due("is(0): the first can't be", x.is(0), 1);
    }

    private static void promise16Told() {
        promise = 16;
        ProphetLiable x = facts(0);
        x.prophet(50, 1);
        x.day(1);
        x.fact(9, 3);
        x.prophet(70, 2);
        x.bring(1, 1);
        x.foretell(1, true, 3, 4, 6);
        read(x, "dues 5;");
        x.by(0);
        x.heard(1, true);
        x.owed(0, 5);
        x.offer(true, 3, 1, 1);
        due("undo()", x.undo(), 2);
        due("undo()", x.undo(), 1);
        due("undo()", x.undo(), 0);
        due("is(0)", x.is(0), 0);
        due("about(0): those told since", x.about(0), 2);
        due("about(1)", x.about(1), 2);
        due("ofFact(1, 0)", x.ofFact(1, 0), 9);
        due("ofFact(1, 1)", x.ofFact(1, 1), 3);
        due("ofFact(1, 2)", x.ofFact(1, 2), 0);
        due("of(1, 0): as told", x.of(1, 0), 70);
        due("of(1, 1)", x.of(1, 1), 2);
        due("about(2)", x.about(2), 1);
        due("about(3)", x.about(3), 0);
        due("about(5)", x.about(5), 1);
        due("about(6)", x.about(6), 1);
        due("about(7)", x.about(7), 1);
    }

    private static void promise17() {
        promise = 17;
        ProphetLiable x = facts(0, 0);
        due("of(0, 0)", x.of(0, 0), -2);
        x.prophet(55, 6);
        x.prophet(0, 0);
        x.foretell(0, true, 1, 9, 5);
        x.foretell(0, true, 2, 9, 6);
        x.foretell(1, true, 2, 1, 7);
        due("of(0, 0)", x.of(0, 0), 66);
        due("of(0, 1)", x.of(0, 1), 6);
        due("of(0, 2)", x.of(0, 2), 0);
        due("of(0, 3)", x.of(0, 3), 2);
        due("of(0, 4)", x.of(0, 4), 110);
        due("of(1, 3)", x.of(1, 3), 1);
        due("of(0, 5)", x.of(0, 5), -2);
        due("of(0, -1)", x.of(0, -1), -2);
        due("of(2, 0)", x.of(2, 0), -2);
        due("of(-1, 0)", x.of(-1, 0), -2);
        x.day(2);
        due("of(1, 2)", x.of(1, 2), 1);
        due("of(1, 3)", x.of(1, 3), 0);
        due("of(1, 4)", x.of(1, 4), 0);
        read(x, "dues 9999;");
        x.by(0);
        due("of(0, 4) by THE TEXT", x.of(0, 4), 19998);
    }

    private static void promise18() {
        promise = 18;
        ProphetLiable x = new ProphetLiable();
        due("ofFact(0, 0)", x.ofFact(0, 0), -2);
        x.fact(4, 9);
        x.prophet(99, 0);
        due("ofFact(0, 0)", x.ofFact(0, 0), 4);
        due("ofFact(0, 1)", x.ofFact(0, 1), 9);
        due("ofFact(0, 2)", x.ofFact(0, 2), 0);
        due("ofFact(0, 3)", x.ofFact(0, 3), 4);
        due("ofFact(0, 4)", x.ofFact(0, 4), -2);
        due("ofFact(0, -1)", x.ofFact(0, -1), -2);
        due("ofFact(1, 0)", x.ofFact(1, 0), -2);
        due("ofFact(-1, 0)", x.ofFact(-1, 0), -2);
        x.bring(0, 0);
        due("ofFact(0, 2)", x.ofFact(0, 2), 1);
        read(x, "comes odds * 3;");
        x.by(0);
        due("ofFact(0, 3): 10 at most", x.ofFact(0, 3), 10);
        due("ofFact(0, 0): told", x.ofFact(0, 0), 4);
        read(x, "dues 1;");
        x.by(1);
        due("ofFact(0, 3) without the law", x.ofFact(0, 3), 4);
    }

    private static void promise19() {
        promise = 19;
        ProphetLiable x = rich(0, 0, 0);
        due("word(0, 0)", x.word(0, 0), -2);
        x.day(3);
        x.foretell(1, false, 6, 4, 12);
        int[] want = {1, 0, 6, 7, 12, 0, 120, 0};
        for (int what = 0; what < 8; what++) {
            due("word(0, " + what + ")", x.word(0, what), want[what]);
        }
        due("word(0, 8)", x.word(0, 8), -2);
        due("word(0, -1)", x.word(0, -1), -2);
        due("word(1, 0)", x.word(1, 0), -2);
        due("word(-1, 0)", x.word(-1, 0), -2);
        x.bring(0, 2);
        due("word(0, 7)", x.word(0, 7), 1);
        x.foretell(0, true, 6, 4, 12);
        due("word(1, 1)", x.word(1, 1), 1);
        due("word(1, 7)", x.word(1, 7), 0);
        x.bring(0, 1);
        due("word(1, 7)", x.word(1, 7), 1);
        x.day(1);
        due("word(0, 5)", x.word(0, 5), 1);
        due("word(0, 6): still dues now", x.word(0, 6), 120);
        read(x, "dues due;");
        x.by(0);
        x.foretell(0, true, 1, 2, 1);
        due("word(2, 6)", x.word(2, 6), 2);
        x.day(5);
        due("word(2, 5)", x.word(2, 5), 2);
        due("word(2, 6): below 0 then", x.word(2, 6), 0);
        read(x, "dues 100 + due;");
        x.by(1);
        due("word(2, 6)", x.word(2, 6), 97);
    }

    private static void promise20() {
        promise = 20;
        ProphetLiable x = rich(10, 0, 10);
        x.foretell(0, true, 1, 1, 1);
        x.day(2);
        due("is(0)", x.is(0), 2);
        due("is(1)", x.is(1), next(next(next(next(191)))));
        due("is(2)", x.is(2), 5);
        due("is(3): ended ones too", x.is(3), 1);
        due("is(4)", x.is(4), -2);
        due("is(-1)", x.is(-1), -2);
    }

    private static void promise21() {
        promise = 21;
        ProphetLiable x = rich(0, 0);
        due("book(NONE, 0)", x.book(NONE, 0), 0);
        due("book(0, 0)", x.book(0, 0), -2);
        x.foretell(0, true, 1, 2, 3);
        x.foretell(1, true, 2, 9, 0);
        x.bring(0, 1);
        x.day(3);
        int[][] want = {{0, 1, 0, 1}, {2, 0, 1, 30}};
        due("book(NONE, 0)", x.book(NONE, 0), 2);
        for (int i = 0; i < 2; i++) {
            for (int what = 0; what < 4; what++) {
                due("book(" + i + ", " + what + ")", x.book(i, what), want[i][what]);
            }
        }
        due("book(0, 4)", x.book(0, 4), -2);
        due("book(0, -1)", x.book(0, -1), -2);
        due("book(2, 0)", x.book(2, 0), -2);
        due("book(-2, 0)", x.book(-2, 0), -2);
        ProphetLiable y = facts(0);
        y.prophet(9999, 0);
        read(y, "dues 9999;");
        y.by(0);
        for (int i = 0; i < 12; i++) {
            y.foretell(0, true, 1, i == 11 ? 1 : 99, 0);
        }
        y.day(2);
        int[] most = {1, 11, 1, 9999};
        for (int what = 0; what < 4; what++) {
            due("book(0, " + what + ")", y.book(0, what), most[what]);
        }
        x.foretell(0, true, 1, 99, 0);
        for (int i = 0; i < 31; i++) {
            due("sell", x.sell(2, 1 - i % 2, i), true);
        }
        due("book(NONE, 0): the latest 30", x.book(NONE, 0), 30);
        due("book(0, 3): the eldest", x.book(0, 3), 1);
        due("book(0, 1)", x.book(0, 1), 2);
        due("book(29, 3): the latest", x.book(29, 3), 30);
        due("book(30, 3)", x.book(30, 3), -2);
        due("undo()", x.undo(), 29);
        due("book(0, 3): as ahead of it", x.book(0, 3), 0);
    }

    private static void promise22() {
        promise = 22;
        ProphetLiable x = rich(0, 10, 5);
        x.foretell(0, true, 1, 2, 3);
        x.foretell(1, true, 2, 2, 3);
        due("ahead(1, 0, 99)", x.ahead(1, 0, 99), 2);
        due("ahead(3, 0, -5) & 3", x.ahead(3, 0, -5) & 3, 2);
        due("ahead(2, 1, 0)", x.ahead(2, 1, 0), 9003);
        due("ahead(3, 1, 0)", x.ahead(3, 1, 0), 8973);
        due("ahead(2, 2, 0)", x.ahead(2, 2, 0), 0);
        due("ahead(3, 2, 0)", x.ahead(3, 2, 0), 2);
        due("ahead(1, 2, 1)", x.ahead(1, 2, 1), 1);
        due("ahead(60, 2, 1)", x.ahead(60, 2, 1), 1);
        due("ahead(0, 0, 0)", x.ahead(0, 0, 0), NONE);
        due("ahead(61, 0, 0)", x.ahead(61, 0, 0), NONE);
        due("ahead(1, 3, 0)", x.ahead(1, 3, 0), NONE);
        due("ahead(1, -1, 0)", x.ahead(1, -1, 0), NONE);
        due("ahead(1, 1, 2)", x.ahead(1, 1, 2), NONE);
        due("ahead(1, 1, -1)", x.ahead(1, 1, -1), NONE);
        due("ahead(1, 2, 2)", x.ahead(1, 2, 2), NONE);
        due("ahead(1, 2, -1)", x.ahead(1, 2, -1), NONE);
        due("is(0): nothing is changed", x.is(0), 0);
        due("is(1)", x.is(1), 191);
        due("is(2)", x.is(2), 0);
        due("about(4)", x.about(4), 2);
        due("book(NONE, 0)", x.book(NONE, 0), 0);
        due("word(1, 5)", x.word(1, 5), 0);
        int third = x.ahead(9, 0, 0);
        x.day(9);
        due("is(2)", x.is(2), third);
        x = facts(5);
        for (int i = 0; i < 166; i++) {
            x.day(60);
        }
        x.day(38);
        x.prophet(1, 1);
        x.fact(0, 1);
        x.foretell(0, true, 2, 1, 1);
        due("ahead(60, 2, 0): those that can pass", x.ahead(60, 2, 0), 0);
        due("word(0, 3): due at a DAY that doesn't come", x.word(0, 3), 9999);
        x.day(1);
        due("ahead(1, 2, 0)", x.ahead(1, 2, 0), 0);
        due("ahead(1, 1, 0)", x.ahead(1, 1, 0), 2);
    }

    private static void promise23() {
        promise = 23;
        ProphetLiable x = rich(0, 10);
        due("until(0)", x.until(0), NONE);
        x.foretell(0, true, 1, 2, 3);
        x.foretell(0, true, 2, 50, 3);
        x.foretell(0, true, 1, 59, 3);
        x.foretell(0, true, 1, 60, 3);
        due("until(0)", x.until(0), 3);
        due("until(1)", x.until(1), 1);
        due("until(2)", x.until(2), 60);
        due("until(3): beyond 60", x.until(3), NONE);
        due("until(4)", x.until(4), NONE);
        due("until(-1)", x.until(-1), NONE);
        due("is(0)", x.is(0), 0);
        due("about(4)", x.about(4), 4);
        x.day(1);
        due("until(1): not open", x.until(1), NONE);
        due("until(0)", x.until(0), 2);
        due("until(3)", x.until(3), 60);
    }

    private static void odds(ProphetLiable x, boolean all, int facts, int days, long upper, long lower) {
        String call = "odds(" + all + ", " + facts + ", " + days + ", ";
        due(call + "false)", x.odds(all, facts, days, false), upper);
        due(call + "true)", x.odds(all, facts, days, true), lower);
    }

    private static void promise24() {
        promise = 24;
        ProphetLiable x = rich(1, 3, 7, 0, 10);
        odds(x, true, 1, 1, 1, 10);
        odds(x, true, 1, 2, 19, 100);
        odds(x, false, 1, 4, 3439, 10000);
        odds(x, true, 8, 4, 0, 1);
        odds(x, true, 16, 1, 1, 1);
        odds(x, false, 3, 1, 37, 100);
        odds(x, true, 3, 1, 3, 100);
        odds(x, true, 7, 4, 3439L * 7599 * 9919, 1000000000000L);
        odds(x, false, 7, 4, 1000000000000L - 6561L * 2401 * 81, 1000000000000L);
        odds(x, true, 15, 1, NONE, NONE);
        odds(x, true, 0, 1, NONE, NONE);
        odds(x, true, 32, 1, NONE, NONE);
        odds(x, true, -1, 1, NONE, NONE);
        odds(x, true, 1, 0, NONE, NONE);
        odds(x, true, 1, 5, NONE, NONE);
        x.bring(0, 3);
        odds(x, true, 15, 1, 21, 1000);
        odds(x, false, 15, 1, 1, 1);
        odds(x, true, 8, 1, 1, 1);
        odds(x, true, 9, 1, 1, 10);
        odds(x, false, 31, 1, NONE, NONE);
        read(x, "comes 10;");
        x.by(0);
        odds(x, true, 1, 1, 1, 10);
        due("is(1)", x.is(1), 191);
    }

    private static void promise25() {
        promise = 25;
        ProphetLiable x = new ProphetLiable();
        int[] cost = {5, 2, 9, 0, 2, 0};
        for (int c : cost) {
            x.fact(0, c);
        }
        x.prophet(500, 0);
        x.foretell(0, false, 0b000111, 9, 0);
        x.foretell(0, true, 0b000101, 9, 0);
        x.foretell(0, false, 0b010010, 9, 0);
        x.foretell(0, false, 0b101000, 9, 0);
        x.foretell(0, false, 0b000001, 1, 0);
        due("least(1, false)", x.least(1, false), 2);
        due("least(1, true)", x.least(1, true), 2);
        due("least(2, false)", x.least(2, false), 5);
        due("least(2, true)", x.least(2, true), 14);
        due("least(3, false)", x.least(3, false), 5);
        due("least(4, false): the lowest of like ones", x.least(4, false), 2);
        due("least(8, false): for nothing", x.least(8, false), 8);
        due("least(8, true)", x.least(8, true), 0);
        due("least(7, false)", x.least(7, false), 7);
        due("least(7, true)", x.least(7, true), 16);
        due("least(0, false)", x.least(0, false), NONE);
        due("least(0, true)", x.least(0, true), NONE);
        due("least(32, false)", x.least(32, false), NONE);
        due("least(33, true)", x.least(33, true), NONE);
        due("least(-1, true)", x.least(-1, true), NONE);
        due("least(LOW, true)", x.least(LOW, true), NONE);
        x.bring(0, 0);
        due("least(1, false): it is SO", x.least(1, false), 0);
        due("least(1, true)", x.least(1, true), 0);
        due("least(2, false)", x.least(2, false), 4);
        x.day(1);
        due("word(0, 5)", x.word(0, 5), 1);
        due("least(1, false): not open", x.least(1, false), NONE);
        due("least(3, false)", x.least(3, false), NONE);
        due("least(2, true)", x.least(2, true), 9);
        // The fewest, where COST is like.
        x = new ProphetLiable();
        x.fact(0, 3);
        x.fact(0, 3);
        x.fact(0, 6);
        x.prophet(0, 0);
        x.foretell(0, false, 5, 9, 0);
        x.foretell(0, false, 6, 9, 0);
        due("least(3, false)", x.least(3, false), 4);
        due("least(3, true)", x.least(3, true), 6);
        // The least COST, though it takes more of them.
        x = new ProphetLiable();
        x.fact(0, 1);
        x.fact(0, 1);
        x.fact(0, 1);
        x.fact(0, 4);
        x.prophet(0, 0);
        x.foretell(0, false, 9, 9, 0);
        x.foretell(0, false, 10, 9, 0);
        x.foretell(0, false, 12, 9, 0);
        due("least(7, false)", x.least(7, false), 7);
        due("least(7, true)", x.least(7, true), 3);
    }

    private static void promise26() {
        promise = 26;
        ProphetLiable x = rich(0, 0, 0, 0, 0);
        x.foretell(0, false, 0b00111, 9, 0);
        x.foretell(0, true, 0b11000, 9, 0);
        x.foretell(0, true, 0b10100, 9, 0);
        x.foretell(0, true, 0b00011, 9, 0);
        due("stop(1)", x.stop(1), 7);
        due("stop(2)", x.stop(2), 8);
        due("stop(4)", x.stop(4), 4);
        due("stop(6)", x.stop(6), 16);
        due("stop(8)", x.stop(8), 1);
        due("stop(14)", x.stop(14), 17);
        due("stop(15)", x.stop(15), 15);
        due("stop(0)", x.stop(0), NONE);
        due("stop(16)", x.stop(16), NONE);
        due("stop(17)", x.stop(17), NONE);
        due("stop(-1)", x.stop(-1), NONE);
        x.bring(0, 3);
        due("stop(2): SO or not", x.stop(2), 8);
        x.bring(0, 0);
        x.day(1);
        due("stop(1): not open", x.stop(1), NONE);
        due("stop(3)", x.stop(3), NONE);
        due("stop(8)", x.stop(8), 1);
    }

    private static void promise27() {
        promise = 27;
        ProphetLiable x = facts(0, 0);
        due("offer of none", x.offer(true, 0, 1, 1), -2);
        due("offer of others", x.offer(true, 4, 1, 1), -2);
        due("offer of others", x.offer(true, -1, 1, 1), -2);
        due("offer for 1000", x.offer(true, 1, 1000, 1), -2);
        due("offer for -2", x.offer(true, 1, -2, 1), -2);
        due("offer dues 1000", x.offer(true, 1, 1, 1000), -2);
        due("offer dues -1", x.offer(true, 1, 1, -1), -2);
        for (int i = 1; i <= 8; i++) {
            due("offer", x.offer(i % 2 == 0, 1 + i % 3, 999, 999), i);
        }
        due("offer, the ninth", x.offer(true, 1, 1, 1), -2);
        due("about(5)", x.about(5), 8);
        due("offer(.., NONE, ..)", x.offer(true, 99, NONE, 5000), 0);
        due("about(5)", x.about(5), 0);
        due("offer(.., 0, 0)", x.offer(false, 3, 0, 0), 1);
        due("about(4)", x.about(4), 0);
    }

    private static void promise28() {
        promise = 28;
        ProphetLiable x = facts(0, 0, 0);
        due("purse(0, false)", x.purse(0, false), 0);
        due("purse(0, true)", x.purse(0, true), 0);
        x.offer(true, 1, 10, 100);
        x.offer(false, 6, 20, 50);
        x.offer(true, 7, 20, 20);
        x.offer(true, 4, 0, 0);
        due("purse(0, false)", x.purse(0, false), 4);
        due("purse(0, true)", x.purse(0, true), 20);
        due("purse(29, false)", x.purse(29, false), 4);
        due("purse(30, false): 70 by 30 and 40", x.purse(30, false), 6);
        due("purse(30, true)", x.purse(30, true), 40);
        due("purse(119, false)", x.purse(119, false), 6);
        due("purse(120, false)", x.purse(120, false), 7);
        due("purse(120, true)", x.purse(120, true), 50);
        due("purse(9999, false)", x.purse(9999, false), 7);
        due("purse(-1, false)", x.purse(-1, false), NONE);
        due("purse(10000, true)", x.purse(10000, true), NONE);
        x.offer(true, 1, NONE, 0);
        x.offer(true, 1, 5, 5);
        x.offer(true, 1, 5, 5);
        x.offer(true, 1, 5, 9);
        due("purse(0, false)", x.purse(0, false), 3);
        due("purse(3, false)", x.purse(3, false), 3);
        due("purse(4, false)", x.purse(4, false), 7);
    }

    private static void promise29() {
        promise = 29;
        ProphetLiable x = facts(0, 0, 0);
        due("worst(0)", x.worst(0), 0);
        due("worst(1)", x.worst(1), NONE);
        x.offer(true, 1, 10, 100);
        x.offer(false, 7, 20, 50);
        x.offer(true, 6, 20, 999);
        due("worst(1)", x.worst(1), 100);
        due("worst(2)", x.worst(2), 50);
        due("worst(3)", x.worst(3), 150);
        due("worst(7)", x.worst(7), 1149);
        due("worst(0)", x.worst(0), 0);
        due("worst(8)", x.worst(8), NONE);
        due("worst(-1)", x.worst(-1), NONE);
        due("worst(HIGH)", x.worst(HIGH), NONE);
    }

    private static void promise30() {
        promise = 30;
        ProphetLiable x = facts(0, 0);
        due("heard(2, true)", x.heard(2, true), -2);
        due("heard(-2, true)", x.heard(-2, true), -2);
        for (int i = 1; i <= 8; i++) {
            due("heard", x.heard(i % 2, i > 3), i);
        }
        due("heard, the ninth", x.heard(0, true), -2);
        due("about(6)", x.about(6), 8);
        due("heard(NONE, false)", x.heard(NONE, false), 0);
        due("about(6)", x.about(6), 0);
        due("heard(0, false)", x.heard(0, false), 1);
        due("is(2): it is heard alone", x.is(2), 0);
        due("about(4)", x.about(4), 0);
    }

    private static void promise31() {
        promise = 31;
        ProphetLiable x = rich(0, 0, 0, 0);
        due("worlds(0, 0)", x.worlds(0, 0), NONE);
        x.foretell(0, false, 3, 9, 0);
        x.foretell(0, true, 7, 9, 0);
        due("worlds(0, 0)", x.worlds(0, 0), 16);
        due("worlds(0, 1)", x.worlds(0, 1), 12);
        due("worlds(1, 1)", x.worlds(1, 1), 2);
        due("worlds(0, 2)", x.worlds(0, 2), NONE);
        due("worlds(0, -1)", x.worlds(0, -1), NONE);
        due("worlds(2, 0)", x.worlds(2, 0), NONE);
        due("worlds(-1, 0)", x.worlds(-1, 0), NONE);
        x.heard(0, false);
        due("worlds(0, 0)", x.worlds(0, 0), 8);
        due("worlds(0, 1)", x.worlds(0, 1), 4);
        due("worlds(1, 1)", x.worlds(1, 1), 0);
        x.heard(0, false);
        due("worlds(0, 0)", x.worlds(0, 0), 8);
        x.heard(1, true);
        due("worlds(0, 0)", x.worlds(0, 0), 4);
        due("worlds(0, 1)", x.worlds(0, 1), 4);
        x.bring(0, 0);
        due("worlds(0, 0): what is SO doesn't matter", x.worlds(0, 0), 4);
        x.heard(0, true);
        due("worlds(0, 0): none", x.worlds(0, 0), 0);
        due("worlds(0, 1)", x.worlds(0, 1), 0);
        x.heard(NONE, true);
        x.day(1);
        due("worlds(0, 1): not open, but told", x.worlds(0, 1), 12);
        x.fact(1, 1);
        due("worlds(0, 0)", x.worlds(0, 0), 32);
    }

    private static void promise32() {
        promise = 32;
        ProphetLiable x = rich(0, 0, 0, 0);
        due("tells(0)", x.tells(0), NONE);
        x.foretell(0, true, 4, 9, 0);
        x.foretell(0, true, 12, 9, 0);
        x.foretell(0, false, 14, 9, 0);
        due("tells(0): none goes wrong by 2", x.tells(0), 2);
        due("tells(1): all are like", x.tells(1), 0);
        due("tells(2)", x.tells(2), 0);
        due("tells(3)", x.tells(3), NONE);
        due("tells(-1)", x.tells(-1), NONE);
        x.heard(3, true);
        due("tells(1)", x.tells(1), 2);
        x.heard(2, true);
        due("tells(0): the lowest not HEARD of", x.tells(0), 0);
        x.heard(0, true);
        due("tells(0)", x.tells(0), 1);
        x.heard(1, false);
        due("tells(0): all are HEARD of", x.tells(0), NONE);
        x.fact(0, 0);
        due("tells(0)", x.tells(0), 4);
        x.heard(1, true);
        due("tells(0): no WORLD", x.tells(0), NONE);
    }

    private static void duel(ProphetLiable x, int made, int fact, int spoilt, int spoiler) {
        due("duel(true, false)", x.duel(true, false), made);
        due("duel(true, true)", x.duel(true, true), fact);
        due("duel(false, false)", x.duel(false, false), spoilt);
        due("duel(false, true)", x.duel(false, true), spoiler);
    }

    private static void promise33() {
        promise = 33;
        ProphetLiable x = rich(0, 0, 0, 0, 0, 0, 0, 0);
        duel(x, -2, -2, -2, -2);
        x.offer(true, 4, 1, 1);
        duel(x, 1, 2, 0, 2);
        x.offer(false, 3, 1, 1);
        // The maker has to take 2 at once, then one of 0 and 1 is left to it. Whatever the spoiler
        // takes, the maker needs two more, and the spoiler gets one of them.
        duel(x, 1, 2, 0, 0);
        x.offer(true, 1, NONE, 1);
        x.offer(true, 6, 1, 1);
        duel(x, 0, NONE, 0, 1);
        x.offer(true, 1, NONE, 1);
        x.offer(false, 6, 1, 1);
        duel(x, 1, 1, 1, NONE);
        x.offer(false, 24, 1, 1);
        duel(x, 1, 1, 1, NONE);
        x.offer(false, 192, 1, 1);
        duel(x, 1, 1, 1, NONE);
        x.offer(false, 10, 1, 1);
        // 2, 1, 3, 4 in a row: the spoiler by 1 forces 2, then by 3 it has both 1 and 3, or 3 and 4.
        duel(x, 1, 1, 0, 1);
        x.bring(0, 1);
        duel(x, 1, 1, 0, 1);
        x.offer(true, 1, NONE, 1);
        x.offer(false, 3, 1, 1);
        x.offer(false, 12, 1, 1);
        x.offer(false, 48, 1, 1);
        x.offer(false, 192, 1, 1);
        // The maker always takes the other one of the two, the last one, too.
        duel(x, 1, 0, 1, NONE);
        x.offer(true, 1, NONE, 1);
        x.offer(true, 255, 1, 1);
        duel(x, 0, NONE, 0, 0);
        x.offer(true, 1, NONE, 1);
        x.offer(false, 255, 1, 1);
        duel(x, 1, 0, 1, NONE);
    }

    private static void fair(ProphetLiable x, boolean all, int facts, int days, int dues, long upper, long lower) {
        String call = "fair(" + all + ", " + facts + ", " + days + ", " + dues + ", ";
        due(call + "false)", x.fair(all, facts, days, dues, false), upper);
        due(call + "true)", x.fair(all, facts, days, dues, true), lower);
    }

    private static void promise34() {
        promise = 34;
        ProphetLiable x = rich(1, 3, 7, 0, 10);
        fair(x, true, 1, 1, 7, 63, 10);
        fair(x, true, 1, 1, 10, 9, 1);
        fair(x, false, 3, 1, 100, 63, 1);
        fair(x, false, 3, 1, 50, 63, 2);
        fair(x, true, 16, 1, 999, 0, 1);
        fair(x, true, 8, 4, 999, 999, 1);
        fair(x, true, 1, 1, 0, 0, 1);
        fair(x, false, 7, 4, 999, 6561L * 2401 * 81 * 999, 1000000000000L);
        fair(x, true, 1, 1, -1, NONE, NONE);
        fair(x, true, 1, 1, 1000, NONE, NONE);
        fair(x, true, 15, 1, 1, NONE, NONE);
        fair(x, true, 0, 1, 1, NONE, NONE);
        fair(x, true, 32, 1, 1, NONE, NONE);
        fair(x, true, 1, 0, 1, NONE, NONE);
        fair(x, true, 1, 5, 1, NONE, NONE);
        x.bring(0, 0);
        fair(x, false, 3, 1, 100, 0, 1);
        fair(x, true, 3, 1, 100, 70, 1);
    }

    private static void promise35() {
        promise = 35;
        ProphetLiable x = rich(0);
        due("owed(0, 1)", x.owed(0, 1), -2);
        x.foretell(0, true, 1, 9, 0);
        due("owed(1, 1)", x.owed(1, 1), -2);
        due("owed(-2, 1)", x.owed(-2, 1), -2);
        due("owed(0, -1)", x.owed(0, -1), -2);
        due("owed(0, 10000)", x.owed(0, 10000), -2);
        for (int i = 1; i <= 8; i++) {
            due("owed", x.owed(0, i == 1 ? 0 : 9999), i);
        }
        due("owed, the ninth", x.owed(0, 1), -2);
        due("about(7)", x.about(7), 8);
        due("owed(NONE, -5)", x.owed(NONE, -5), 0);
        due("about(7)", x.about(7), 0);
        due("owed(0, 3)", x.owed(0, 3), 1);
        due("about(4)", x.about(4), 1);
    }

    private static void promise36() {
        promise = 36;
        ProphetLiable x = rich(0, 0);
        x.foretell(0, true, 1, 9, 4);
        x.foretell(1, true, 3, 9, 8);
        due("whose() without TEXTS", x.whose(), 0);
        read(x, "dues fee * 10;");
        read(x, "dues 40;");
        read(x, "comes 1;");
        read(x, "dues facts * 40;");
        due("whose(): nothing is OWED", x.whose(), 15);
        x.owed(0, 40);
        due("whose()", x.whose(), 15);
        x.owed(1, 80);
        due("whose()", x.whose(), 13);
        x.by(1);
        due("whose(): whichever rules", x.whose(), 13);
        x.owed(1, 40);
        due("whose()", x.whose(), 0);
        x.undo();
        due("whose(): those not there any more aside", x.whose(), 15);
        x.undo();
        due("whose()", x.whose(), 15);
        x.foretell(0, false, 3, 9, 9);
        due("whose()", x.whose(), 2);
    }

    private static void promise37() {
        promise = 37;
        ProphetLiable x = facts(0);
        due("famous()", x.famous(), NONE);
        x.prophet(5, 0);
        due("famous() of 0", x.famous(), 0);
        x.prophet(7, 0);
        due("famous() of like ones", x.famous(), 0);
        x.prophet(7, 9);
        x.prophet(7, 9);
        due("famous()", x.famous(), 2);
        x.prophet(0, 10);
        due("famous()", x.famous(), 4);
    }

    private static void promise38() {
        promise = 38;
        ProphetLiable x = facts(0);
        due("richest()", x.richest(), NONE);
        x.prophet(0, 5);
        due("richest() of 0", x.richest(), 0);
        x.prophet(0, 7);
        due("richest() of like ones", x.richest(), 0);
        x.prophet(9, 0);
        x.prophet(9, 9);
        due("richest()", x.richest(), 2);
        x.foretell(1, true, 1, 1, 10);
        due("richest()", x.richest(), 1);
    }

    private static void promise39() {
        promise = 39;
        ProphetLiable x = facts(0);
        due("ruined()", x.ruined(), 0);
        x.prophet(0, 0);
        x.prophet(90, 0);
        x.prophet(0, 0);
        x.foretell(0, true, 1, 1, 0);
        x.foretell(1, true, 1, 1, 10);
        x.foretell(2, true, 1, 1, 1);
        x.day(2);
        due("ruined(): not by just so much", x.ruined(), 4);
        due("of(1, 0)", x.of(1, 0), 0);
        due("undo()", x.undo(), 4);
        due("ruined()", x.ruined(), 0);
    }

    private static void promise40() {
        promise = 40;
        ProphetLiable x = facts(0);
        due("idle()", x.idle(), 0);
        x.prophet(0, 0);
        x.prophet(90, 0);
        x.prophet(50, 0);
        due("idle()", x.idle(), 7);
        x.foretell(0, true, 1, 1, 1);
        x.foretell(2, true, 1, 9, 0);
        due("idle()", x.idle(), 2);
        x.sell(1, 1, 0);
        due("idle()", x.idle(), 4);
        x.day(2);
        due("idle(): RUINED or not", x.idle(), 5);
    }

    private static void promise41() {
        promise = 41;
        ProphetLiable x = rich(0, 0, 0);
        due("ledger(0)", x.ledger(0), 0);
        x.foretell(0, true, 3, 9, 0);
        x.foretell(0, true, 4, 1, 3);
        x.foretell(1, false, 6, 1, 0);
        x.foretell(1, false, 4, 9, 0);
        x.sell(3, 0, 40);
        x.sell(3, 1, 2);
        x.bring(0, 0);
        x.bring(0, 1);
        x.day(2);
        due("ledger(0)", x.ledger(0), 4);
        due("ledger(1)", x.ledger(1), 30);
        due("ledger(2)", x.ledger(2), 42);
        due("ledger(3)", x.ledger(3), -2);
        due("ledger(-1)", x.ledger(-1), -2);
        for (int i = 0; i < 30; i++) {
            x.sell(3, i % 2, 1);
        }
        due("ledger(2): the latest 30", x.ledger(2), 30);
        due("ledger(0)", x.ledger(0), 0);
    }

    private static void promise42() {
        promise = 42;
        ProphetLiable x = rich(0, 10);
        x.day(4);
        due("image()", x.image(), 4);
        due("is(0): nothing is changed", x.is(0), 4);
        due("about(4)", x.about(4), 4);
        x.day(1);
        due("image()", x.image(), 5);
        x.day(1);
        due("back()", x.back(), 5);
    }

    private static void promise43() {
        promise = 43;
        ProphetLiable x = rich(0, 0);
        read(x, "dues 7;");
        x.by(0);
        x.foretell(0, true, 1, 2, 3);
        x.day(1);
        x.bring(1, 1);
        x.offer(true, 1, 1, 2);
        x.heard(0, true);
        x.owed(0, 7);
        x.image();
        x.feed(1, 2, 3, 4, 5);
        x.fact(3, 3);
        x.prophet(3, 3);
        x.foretell(0, true, 1, 2, 3);
        x.sell(0, 1, 5);
        x.day(5);
        x.years(3, 3);
        read(x, "dues 8;");
        x.by(1);
        x.offer(true, 1, NONE, 0);
        x.heard(NONE, true);
        x.owed(NONE, 0);
        read(x, "day");
        x.feed(1, 2, 3, 4, 5);
        due("back()", x.back(), 1);
        int[] about = {2, 2, 1, 0, 3, 1, 1, 1, 20};
        for (int what = 0; what < 9; what++) {
            due("about(" + what + ")", x.about(what), about[what]);
        }
        due("fault(0): not in the IMAGE", x.fault(0), 1);
        due("is(0)", x.is(0), 1);
        due("is(1)", x.is(1), next(next(191)));
        due("is(2)", x.is(2), 2);
        due("is(3)", x.is(3), 1);
        due("of(0, 0)", x.of(0, 0), 9003);
        due("of(1, 0)", x.of(1, 0), 4998);
        due("word(0, 0)", x.word(0, 0), 0);
        due("word(0, 5)", x.word(0, 5), 0);
        due("word(0, 6)", x.word(0, 6), 7);
        due("book(NONE, 0)", x.book(NONE, 0), 0);
        due("undo(): STEPS, too", x.undo(), 2);
        due("is(2)", x.is(2), 0);
        due("undo()", x.undo(), 1);
        due("undo()", x.undo(), 0);
        due("is(3)", x.is(3), 0);
        due("back(): the IMAGE stays", x.back(), 1);
        due("about(4)", x.about(4), 3);
        due("is(2)", x.is(2), 2);
        due("text()", read(x, "dues 9;"), 1);
        x.by(1);
        due("word(0, 6)", x.word(0, 6), 9);
    }

    private static void promise44() {
        promise = 44;
        ProphetLiable x = facts(0, 0, 0);
        x.prophet(1, 1);
        x.prophet(1, 1);
        read(x, "day 1;");
        read(x, "day 1;");
        x.by(1);
        x.foretell(0, true, 1, 1, 1);
        x.day(4);
        x.offer(true, 1, 1, 1);
        x.heard(0, true);
        x.heard(1, true);
        x.owed(0, 1);
        x.owed(0, 1);
        x.owed(0, 1);
        x.feed(0, 0, 0, 0, 0);
        x.end(17);
        int[] want = {3, 2, 2, 1, 5, 1, 2, 3, 17};
        for (int what = 0; what < 9; what++) {
            due("about(" + what + ")", x.about(what), want[what]);
        }
        due("about(9)", x.about(9), -2);
        due("about(-1)", x.about(-1), -2);
        due("about(HIGH)", x.about(HIGH), -2);
        due("about(LOW)", x.about(LOW), -2);
    }
}
