/** Promises 3 to 5: the tape, texts and their faults. */
public final class FaultsTest {
    private static final Asked ASKED = new Asked("FaultsTest");

    public static void main(String[] args) {
        tape();
        latestLoad();
        good();
        noToken();
        cannotStand();
        names();
        tooMany();
        open();
        notPlain();
        tooHeavy();
        ASKED.end();
    }

    private static void fault(String text, int kind, int place) {
        TestJudge judge = Asked.told("tests k;acts m;let n=k m;");
        ASKED.denied(text, judge, Asked.load(judge, text), 9);
        ASKED.due(text + ": kind", judge.fault(0), kind);
        ASKED.due(text + ": place", judge.fault(1), place);
        ASKED.given(text + ": programs stay", judge, judge.many(2), 1);
        ASKED.given(text + ": tests stay", judge, judge.many(0), 1);
        ASKED.given(text + ": strings stay", judge, judge.count(0, 1), 2);
    }

    private static void fine(String text, int programs) {
        TestJudge judge = new TestJudge();
        ASKED.given(text, judge, Asked.load(judge, text), programs);
        ASKED.due(text + ": kind", judge.fault(0), 0);
        ASKED.due(text + ": place", judge.fault(1), TestJudge.NONE);
    }

    private static void tape() {
        ASKED.part("tape");
        TestJudge judge = new TestJudge();
        ASKED.denied("load(1) of an empty tape", judge, judge.load(1), 1);
        for (int i = 1; i <= 25; i++) {
            ASKED.due("feed " + i, judge.feed(0x20202020, 0x20202020, 0x20202020, 0x20202020, 0x20202020), 20 * i);
        }
        ASKED.due("feed 26", judge.feed(0, 0, 0, 0, 0), TestJudge.NONE);
        ASKED.due("status behind feed", judge.status(), 1);
        ASKED.denied("load(501)", judge, judge.load(501), 1);
        ASKED.denied("load(-1)", judge, judge.load(-1), 1);
        ASKED.given("load(500)", judge, judge.load(500), 0);
        ASKED.denied("load(1): the tape is empty", judge, judge.load(1), 1);
        ASKED.given("load(0)", judge, judge.load(0), 0);
        // The highest byte comes first, and what is behind n goes too.
        judge.feed('l' << 24 | 'e' << 16 | 't' << 8 | ' ', 'x' << 24 | '=' << 16 | '1' << 8 | ';', 0, 0, -1);
        ASKED.given("load(8)", judge, judge.load(8), 1);
        ASKED.denied("load(12)", judge, judge.load(12), 1);
        // A faulty text leaves the tape empty, too.
        Asked.feed(judge, "?");
        ASKED.denied("load(1)", judge, judge.load(1), 9);
        ASKED.denied("load(1) again", judge, judge.load(1), 1);
        // Behind a number that can't be the tape stays.
        Asked.feed(judge, "let x=1;let y=0;");
        ASKED.denied("load(21)", judge, judge.load(21), 1);
        ASKED.given("load(20)", judge, judge.load(20), 2);
    }

    private static void latestLoad() {
        ASKED.part("latest load");
        TestJudge judge = new TestJudge();
        ASKED.due("fault(0) ahead of any", judge.fault(0), TestJudge.NONE);
        ASKED.due("fault(1) ahead of any", judge.fault(1), TestJudge.NONE);
        judge.load(7);
        ASKED.due("fault(0) behind load() with 1", judge.fault(0), TestJudge.NONE);
        judge.load(0);
        ASKED.due("fault(0) behind a good one", judge.fault(0), 0);
        ASKED.due("fault(1) behind a good one", judge.fault(1), TestJudge.NONE);
        Asked.load(judge, "let ;");
        ASKED.due("fault(0)", judge.fault(0), 2);
        judge.load(99);
        ASKED.due("fault(0) stays", judge.fault(0), 2);
        ASKED.due("fault(1) stays", judge.fault(1), 4);
        ASKED.due("fault(2)", judge.fault(2), TestJudge.NONE);
        ASKED.due("fault(-1)", judge.fault(-1), TestJudge.NONE);
        ASKED.due("status stays", judge.status(), 1);
    }

    private static void good() {
        ASKED.part("good");
        fine("", 0);
        fine(" \n ", 0);
        fine("tests b;tests c d;acts p;acts q r;", 0);
        fine("acts p;tests b;let x=p b;", 1);
        fine("acts p;zero p p;let x=p;", 1);
        fine("tests b c;let\nx=!b*!c+(b)c01;let y=x x;", 2);
        fine("tests abcdef;let fedcba=abcdef;", 1);
        fine("let a=1;let b=1;let c=1;let d=1;let e=1;let f=1;let g=1;let h=1;zero 0;zero 1;", 8);
        fine("tests b;acts p;let x=if b then while !b do p p end else p p p end;", 1);
        fine("tests b;let x=if b+1 then b else 0 end;let y=while x do x end;let z=!x;", 3);
        fine("let x=1***;let y=(((( 1 ))));let z=!!!!1;let w=!!!(1)!1!1!1!1(1);", 4);
    }

    private static void noToken() {
        ASKED.part("no token");
        fault("?", 1, 0);
        fault("let x=1;\t", 1, 8);
        fault("tests B;", 1, 6);
        fault("tests abcdefg;", 1, 6);
        fault("letlets x=1;", 1, 0);
        fault("let x=2;", 1, 6);
        fault("let x=1" + (char) 0 + ";", 1, 7);
        fault("let x=1" + (char) 233 + ";", 1, 7);
        fault("let x ? 1;", 1, 6);
        fault("let ?=1;", 1, 4);
        fault("tests a ?;", 1, 8);
        fault("let x=1 abcdefghijklmnopqrstuvwxyz;", 1, 8);
    }

    private static void cannotStand() {
        ASKED.part("can't stand");
        fault("x", 2, 0);
        fault(" ;", 2, 1);
        fault("tests;", 2, 5);
        fault("tests", 2, 5);
        fault("tests  ", 2, 7);
        fault("tests a  ", 2, 9);
        fault("tests a if;", 2, 8);
        fault("tests a=;", 2, 7);
        fault("acts ;", 2, 5);
        fault("let if=1;", 2, 4);
        fault("let x 1;", 2, 6);
        fault("let x=;", 2, 6);
        fault("let x=1+;", 2, 8);
        fault("let x=*1;", 2, 6);
        fault("let x=1", 2, 7);
        fault("let x=()1;", 2, 7);
        fault("let x=(1;", 2, 8);
        fault("let x=1);", 2, 7);
        fault("let x=!;", 2, 7);
        fault("let x=if 1 do 1 end;", 2, 11);
        fault("let x=if 1 then 1 end;", 2, 18);
        fault("let x=if 1 then 1 else 1;", 2, 24);
        fault("let x=while 1 then 1 end;", 2, 14);
        fault("let x=while 1 do 1;", 2, 18);
        fault("let x=1 let y=1;", 2, 8);
        fault("let x=1 = 1;", 2, 8);
        fault("zero;", 2, 4);
        fault("zero x=1;", 3, 5);
        fault("zero 0 = 1;", 2, 7);
        fault("let x=1;tests a;", 2, 8);
        fault("zero 0;acts a;", 2, 7);
        fault("let x=1; ;", 2, 9);
    }

    private static void names() {
        ASKED.part("names");
        fault("tests a a;", 3, 8);
        fault("tests a;acts b a;", 3, 15);
        fault("tests a;let a=1;", 3, 12);
        fault("acts a;let a=1;", 3, 11);
        fault("let a=1;let a=1;", 3, 12);
        fault("let a=a;", 3, 6);
        fault("let a=1 b c;", 3, 8);
        fault("zero a;", 3, 5);
        // Names of the text ahead are none.
        fault("let a=n;", 3, 6);
        fault("let a=k;", 3, 6);
        fault("let a=b;let b=1;", 3, 6);
        fault("let a=!b;", 3, 7);
        // It is a fourth test, too, but taken is the lesser kind.
        fault("tests a b c a;", 3, 12);
    }

    private static void tooMany() {
        ASKED.part("too many");
        fault("tests a b c d;", 4, 12);
        fault("tests a b;tests c d e;", 4, 18);
        fault("acts a b c d;", 4, 11);
        fault("tests a b c;tests ?;", 1, 18);
        fault("let a=1;let b=1;let c=1;let d=1;let e=1;let f=1;let g=1;let h=1;let ?", 4, 64);
        fault("zero 0;zero 1;zero ?", 4, 14);
        fault("tests a b c;tests ;", 2, 18);
    }

    private static void open() {
        ASKED.part("open");
        fault("let x=((((( 1 )))));", 4, 10);
        fault("let x=!!!!!1;", 4, 10);
        fault("let x=!!!!(1);", 4, 10);
        fault("let x=((((!1))));", 4, 10);
        fault("let x=((((if 1 then 1 else 1 end))));", 4, 10);
        fault("let x=((((while 1 do 1 end))));", 4, 10);
        fault("let x=if 1 then if 1 then 1 else ((( 1", 4, 35);
        fault("let x=while (1) do (((1)( (", 4, 26);
        fault("let x=while (1) do (((1)(1)", 2, 27);
        fault("let x=((((1))))(((( (", 4, 20);
    }

    private static void notPlain() {
        ASKED.part("not plain");
        fault("acts p;let x=!p;", 5, 15);
        fault("acts p;let x=!p", 5, 15);
        fault("acts p;let x=!p  ", 5, 17);
        fault("acts p;let x=!p ?;", 5, 16);
        fault("acts p;let x=!p foo;", 5, 16);
        fault("acts p;let x=!p )", 5, 16);
        fault("acts p;let x=!p*;", 5, 15);
        fault("acts p;let x=(((!p (1))));", 5, 19);
        fault("acts p;let x=!(1 p 1)1;", 5, 21);
        fault("acts p;let x=!(p;", 2, 16);
        fault("acts p;let y=0 p;let x=!y;", 5, 25);
        fault("acts p;let x=if p then 1 else 1 end;", 5, 18);
        fault("acts p;let x=if p do", 5, 18);
        fault("acts p;let x=if p ?", 5, 18);
        fault("acts p;let x=if p", 5, 17);
        fault("acts p;let x=if p foo then", 3, 18);
        fault("acts p;let x=if p + then", 2, 20);
        fault("acts p;let x=if 1 + p 0 then 1 else 1 end;", 5, 24);
        fault("acts p;let x=while p* do 1 end;", 5, 22);
        fault("acts p;let x=while 1 do 1 end !while 1 do p end;", 5, 47);
    }

    private static void tooHeavy() {
        ASKED.part("too heavy");
        fine("acts p;let x=p p p p p;zero p;zero p;", 1);
        fault("acts p;let x=p p p p p p;", 5, 24);
        fault("acts p;let x=p p p;let y=x x;", 5, 28);
        fault("acts p;let x=p+(p 0)*;let y=x x p;let z=y+p;", 5, 43);
        fault("acts p;let x=p p p p p p", 2, 24);
        fault("acts p;let x=(p p p p p p;", 2, 25);
        fault("acts p;let x=p p p p p p foo;", 3, 25);
        fault("acts p;zero p p p;", 5, 17);
        fault("acts p;zero p p;zero p;", 5, 22);
        fault("acts p;let x=p p;zero p;zero x;", 5, 30);
        StringBuilder many = new StringBuilder("acts p;let x=p p p p p;let y=");
        while (many.length() < 490) {
            many.append("(x)*");
        }
        fault(many + ";", 5, many.length());
    }
}
