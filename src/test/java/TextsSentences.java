/** The sentences of "Texts". */
final class TextsSentences {
    private static final int NO_FAULT = Check.ABSENT;

    private TextsSentences() {
    }

    static void tests(Sentences s) {
        s.section("Texts");
        s.test("There is a text of at most 60 characters", TextsSentences::sixtyCharacters);
        s.test("initially empty:", TextsSentences::initiallyEmpty);
        s.test("orders, each followed by \";\":", TextsSentences::eachFollowedBySemicolon);
        s.test("\"m\" a unit \",\" a stamp \",\" a value (a reading without flags is sent, on its way for one tick)",
                TextsSentences::orderToSend);
        s.test("\"p\" ticks (they go by)", TextsSentences::orderToPass);
        s.test("or \"x\" a unit (it is taken off);", TextsSentences::orderToTakeOff);
        s.test("numbers of 1 to 6 digits", TextsSentences::oneToSixDigits);
        s.test("0 ahead allowed", TextsSentences::zerosAhead);
        s.test("a value with \"-\" ahead or not.", TextsSentences::minusAhead);
        s.test("The fault of the text is the position, from 0, of the first character of the first order that is not"
                + " possible;", TextsSentences::positions);
        s.test("its reason is 1 if it is not of this form, its \";\" included", TextsSentences::notOfThisForm);
        s.test("2 if there is no such unit", TextsSentences::noSuchUnit);
        s.test("and 3 if it is not possible otherwise (by what send, pass and takeOff tell", TextsSentences::notPossible);
        s.test("numbers out of range, too)", TextsSentences::outOfRange);
        s.test("when those ahead of it are done.", TextsSentences::whenThoseAheadAreDone);
    }

    /** Two units of the periods 1 and 2 at the time 10. */
    private static Probe twoUnits() {
        Probe x = new Probe();
        x.unit(0, 1);
        x.unit(0, 2);
        x.pass(10);
        return x;
    }

    private static void right(Probe x, String text, int orders) {
        Check.fault(x, text, NO_FAULT, NO_FAULT);
        Probe y = x.again();
        Check.text(y, text);
        y.due(orders, "play");
    }

    private static void wrong(Probe x, String text, int position, int reason) {
        Check.fault(x, text, position, reason);
        Probe y = x.again();
        Check.text(y, text);
        y.due(Check.IMPOSSIBLE, "play");
    }

    private static void sixtyCharacters() {
        Probe x = new Probe();
        for (int length = 1; length <= 59; length++) {
            x.due(length, "type", 'p');
        }
        x.due(59, "count", 10);
        x.due(60, "type", ';');
        x.due(60, "count", 10);
        x.refuses(Check.LIMIT, "type", ';');
        x.refuses(Check.LIMIT, "type", 32);
        x.due(60, "count", 10);
        // Full of orders; then the last character is missing.
        String full = "p1;".repeat(20);
        right(new Probe(), full, 20);
        wrong(new Probe(), full.substring(0, 59), 57, 1);
        right(new Probe(), full.substring(0, 57), 19);
    }

    private static void initiallyEmpty() {
        Probe x = new Probe();
        x.due(0, "count", 10);
        x.due(Check.ABSENT, "fault", 0);
        x.due(Check.ABSENT, "fault", 1);
        x.due(0, "play");
        x.due(0, "clearText");
        x.due(1, "type", 'p');
    }

    private static void eachFollowedBySemicolon() {
        Probe x = twoUnits();
        right(x, "", 0);
        right(x, "p1;", 1);
        right(x, "p1;p1;", 2);
        right(x, "x0;x1;", 2);
        wrong(x, "p1", 0, 1);
        wrong(x, "p1;p1", 3, 1);
        wrong(x, "p1p1;", 0, 1);
        wrong(x, "p1,p1;", 0, 1);
        wrong(x, "p1:", 0, 1);
        wrong(x, "p1 ;", 0, 1);
        wrong(x, ";", 0, 1);
        wrong(x, "p1;;", 3, 1);
        wrong(x, "x0", 0, 1);
        wrong(x, "x0,", 0, 1);
        wrong(x, "m0,1,2", 0, 1);
        wrong(x, "m0,1,2,", 0, 1);
    }

    private static void orderToSend() {
        Probe x = twoUnits();
        Check.text(x, "m0,9,-7;m1,8,70;");
        x.due(2, "play");
        x.due(2, "count", 3);
        x.due(1, "unitOf", 0, 3);
        x.due(1, "unitOf", 1, 4);
        x.due(1, "nextOut");
        x.pass(1);
        x.due(0, "count", 3);
        x.due(9, "outAt", 0, 0);
        x.due(-7, "readingAt", 0, 0, 0);
        x.due(0, "readingAt", 0, 0, 1);
        x.due(8, "outAt", 1, 0);
        x.due(70, "readingAt", 1, 1, 0);
        x.due(0, "readingAt", 1, 1, 1);
        // The stamp 0 and the value 0; the present time.
        right(x, "m0,0,0;", 1);
        right(x, "m0,11,0;", 1);
        wrong(x, "m0,12,0;", 0, 3);
    }

    private static void orderToPass() {
        int[] ticks = {1, 2, 99, 100};
        for (int many : ticks) {
            Probe x = twoUnits();
            x.send(0, 10, 5, 0, 2);
            Check.text(x, "p" + many + ";");
            x.due(1, "play");
            x.due(10 + many, "count", 2);
            x.due(many == 1 ? 0 : 1, "count", 4);
        }
        wrong(twoUnits(), "p0;", 0, 3);
        wrong(twoUnits(), "p101;", 0, 3);
    }

    private static void orderToTakeOff() {
        Probe x = twoUnits();
        Check.text(x, "x1;");
        x.due(1, "play");
        x.due(1, "count", 1);
        x.due(1, "unitOf", 1, 2);
        x.due(0, "unitOf", 0, 2);
        x.due(0, "fault", 0);
        x.due(3, "fault", 1);
        wrong(twoUnits(), "x0;x0;", 3, 3);
        right(twoUnits(), "x0;x1;", 2);
    }

    private static void oneToSixDigits() {
        Probe x = twoUnits();
        // Each of the numbers with no digit, with one, six and seven.
        wrong(x, "p;", 0, 1);
        right(x, "p1;", 1);
        right(x, "p000001;", 1);
        wrong(x, "p0000001;", 0, 1);
        wrong(x, "x;", 0, 1);
        right(x, "x1;", 1);
        right(x, "x000001;", 1);
        wrong(x, "x0000001;", 0, 1);
        wrong(x, "m,2,3;", 0, 1);
        right(x, "m1,2,3;", 1);
        right(x, "m000001,2,3;", 1);
        wrong(x, "m0000001,2,3;", 0, 1);
        wrong(x, "m1,,3;", 0, 1);
        right(x, "m1,000002,3;", 1);
        wrong(x, "m1,0000002,3;", 0, 1);
        wrong(x, "m1,2,;", 0, 1);
        right(x, "m1,2,000003;", 1);
        wrong(x, "m1,2,0000003;", 0, 1);
        right(x, "m1,2,-000003;", 1);
        wrong(x, "m1,2,-0000003;", 0, 1);
        wrong(x, "m1,2,-;", 0, 1);
        right(x, "m1,2,100000;", 1);
        // Six digits are of the form, whatever they tell.
        wrong(x, "p999999;", 0, 3);
        wrong(x, "x999999;", 0, 2);
        wrong(x, "m1,2,999999;", 0, 3);
        wrong(x, "m1,2,-999999;", 0, 3);
        wrong(x, "m1,999999,3;", 0, 3);
        wrong(x, "p1000000;", 0, 1);
        // The signs beside the digits are none.
        wrong(x, "p/;", 0, 1);
        wrong(x, "p:;", 0, 1);
        right(x, "p9;", 1);
        wrong(x, "p1/;", 0, 1);
        wrong(x, "p1:;", 0, 1);
        wrong(x, "p1.0;", 0, 1);
        wrong(x, "p1e1;", 0, 1);
    }

    private static void zerosAhead() {
        Probe x = twoUnits();
        String[] ticks = {"5", "05", "005", "0005", "00005", "000005"};
        for (String some : ticks) {
            Probe y = x.again();
            Check.text(y, "p" + some + ";");
            y.due(1, "play");
            y.due(15, "count", 2);
        }
        // They are no octal numbers, and nothing but 0 is still 0.
        Check.text(x, "m0,010,0100;p010;x00;");
        x.due(3, "play");
        x.due(20, "count", 2);
        x.due(10, "outAt", 0, 0);
        x.due(100, "readingAt", 0, 0, 0);
        x.due(1, "unitOf", 0, 2);
        wrong(x, "p00;", 0, 3);
        wrong(x, "p000000;", 0, 3);
        right(x, "m01,00,00;", 1);
        right(x, "m01,0,-00;", 1);
    }

    private static void minusAhead() {
        Probe x = twoUnits();
        Check.text(x, "m0,9,-5;m1,8,5;p1;");
        x.due(3, "play");
        x.due(-5, "readingAt", 0, 0, 0);
        x.due(5, "readingAt", 1, 1, 0);
        right(x, "m0,1,-0;", 1);
        right(x, "m0,1,-100000;", 1);
        wrong(x, "m0,1,-100001;", 0, 3);
        wrong(x, "m0,1,--5;", 0, 1);
        wrong(x, "m0,1,5-;", 0, 1);
        wrong(x, "m0,1,- 5;", 0, 1);
        wrong(x, "m0,1,+5;", 0, 1);
        // Of the others none may have it.
        wrong(x, "m-0,1,5;", 0, 1);
        wrong(x, "m0,-0,5;", 0, 1);
        wrong(x, "p-1;", 0, 1);
        wrong(x, "x-0;", 0, 1);
    }

    private static void positions() {
        Probe x = twoUnits();
        wrong(x, "q", 0, 1);
        wrong(x, "p1;q", 3, 1);
        wrong(x, "m0,1,2;q", 7, 1);
        wrong(x, "p1;p1", 3, 1);
        // The first one of several, whatever their reasons.
        wrong(x, "x5;p0;q", 0, 2);
        wrong(x, "p0;x5;q", 0, 3);
        wrong(x, "q;x5;p0;", 0, 1);
        wrong(x, "p1;x5;p0;q", 3, 2);
        // The first character of the order, not the one that is wrong.
        wrong(x, "p1;m0,1,2,3;", 3, 1);
        wrong(x, "p1;m0,1,999999;", 3, 3);
        // The last place that there is.
        wrong(x, "p1;".repeat(19) + "p12", 57, 1);
        wrong(x, "p1;".repeat(19) + "p0;", 57, 3);
        wrong(x, "p1;".repeat(19) + "x2;", 57, 2);
        wrong(x, "p10;" + "p1;".repeat(18) + "x", 58, 1);
        wrong(x, "p10;p10;" + "p1;".repeat(17) + "q", 59, 1);
        wrong(x, " ".repeat(60), 0, 1);
    }

    private static void notOfThisForm() {
        Probe x = twoUnits();
        String[] texts = {" p1;", "p 1;", "p1; ", "P1;", "M0,1,2;", "X0;", "n0,1,2;", "0;", "1", "-", "p", "m", "x", "m0", "m0,",
            "m0,1", "m0,1,", "m0;", "m0,1;", "m0;1;2;", "m0.1.2;", "m0,1,2,;", "p1,2;", "x0,1;", "px1;", "mm0,1,2;", "p1x0;",
            "m0 ,1,2;", "m0, 1,2;"};
        for (String text : texts) {
            int position = text.equals("p1; ") ? 3 : 0;
            wrong(x, text, position, 1);
        }
        // Rather the form than no such unit or what is out of range, if the ";" alone is missing.
        wrong(x, "x2", 0, 1);
        wrong(x, "p0", 0, 1);
        wrong(x, "m2,999999,999999", 0, 1);
        wrong(x, "x2;", 0, 2);
        wrong(x, "p0;", 0, 3);
    }

    private static void noSuchUnit() {
        Probe x = twoUnits();
        right(x, "x1;", 1);
        wrong(x, "x2;", 0, 2);
        wrong(x, "x10;", 0, 2);
        right(x, "m1,0,0;", 1);
        wrong(x, "m2,0,0;", 0, 2);
        wrong(x, "m999999,0,0;", 0, 2);
        // Rather this than another number out of range.
        wrong(x, "m2,1,100001;", 0, 2);
        wrong(x, "m2,20001,0;", 0, 2);
        // One that was taken off is one.
        wrong(x, "x1;m1,0,0;", 3, 3);
        wrong(x, "x1;x1;", 3, 3);
        // There is none at all; and all ten.
        wrong(new Probe(), "x0;", 0, 2);
        Probe y = new Probe();
        for (int unit = 0; unit < 10; unit++) {
            y.unit(0, 1);
        }
        right(y, "x9;", 1);
        wrong(y, "x10;", 0, 2);
        // The number of ticks is none of a unit.
        right(new Probe(), "p5;", 1);
    }

    private static void notPossible() {
        Probe x = twoUnits();
        // What send tells: taken off, no multiple, after the present time, forty on their way.
        wrong(x, "x0;m0,1,1;", 3, 3);
        right(x, "m1,2,1;", 1);
        wrong(x, "m1,1,1;", 0, 3);
        wrong(x, "m1,3,1;", 0, 3);
        right(x, "m0,10,1;", 1);
        wrong(x, "m0,11,1;", 0, 3);
        Probe y = twoUnits();
        for (int i = 1; i <= 39; i++) {
            y.send(0, 0, 0, 0, 9);
        }
        right(y, "m0,0,0;", 1);
        wrong(y, "m0,0,0;m0,0,0;", 7, 3);
        right(y, "m0,0,0;p1;m0,0,0;", 3);
        // What pass tells: the end of time.
        Probe z = new Probe();
        z.passTo(19999);
        right(z, "p1;", 1);
        wrong(z, "p2;", 0, 3);
        wrong(z, "p1;p1;", 3, 3);
        // What takeOff tells.
        wrong(x, "x0;x1;x0;", 6, 3);
    }

    private static void outOfRange() {
        Probe x = twoUnits();
        x.passTo(100);
        right(x, "m0,0,100000;", 1);
        wrong(x, "m0,0,100001;", 0, 3);
        right(x, "m0,0,-100000;", 1);
        wrong(x, "m0,0,-100001;", 0, 3);
        wrong(x, "m0,20000,0;", 0, 3);
        wrong(x, "m0,20001,0;", 0, 3);
        wrong(x, "p0;", 0, 3);
        right(x, "p100;", 1);
        wrong(x, "p101;", 0, 3);
        // At the end of time the stamp 20000 is possible.
        Probe y = new Probe();
        y.unit(0, 1);
        y.passTo(20000);
        right(y, "m0,20000,0;", 1);
        wrong(y, "m0,20001,0;", 0, 3);
        wrong(y, "p1;", 0, 3);
    }

    private static void whenThoseAheadAreDone() {
        Probe x = twoUnits();
        wrong(x, "m0,11,0;", 0, 3);
        right(x, "p1;m0,11,0;", 2);
        wrong(x, "p1;m0,12,0;", 3, 3);
        wrong(x, "m0,11,0;p1;", 0, 3);
        right(x, "m0,1,0;x0;", 2);
        wrong(x, "x0;m0,1,0;", 3, 3);
        // To tell it does none of them.
        Check.text(x, "m0,1,0;x0;p5;x0;");
        x.changesNothing("fault", 0);
        x.changesNothing("fault", 1);
        x.due(13, "fault", 0);
        x.due(10, "count", 2);
        x.due(2, "count", 1);
        x.refuses(Check.IMPOSSIBLE, "play");
    }
}
