/** Promises 12 to 17: the text, its fault, sheets and what is in force. */
public final class TextTest {
    public static void main(String[] args) {
        bytes();
        standing();
        faults();
        deep();
        sheets();
        forces();
        Checks.finish("TextTest");
    }

    private static void bytes() {
        WheelLand x = new WheelLand();
        for (int k = 1; k <= 20; k++) {
            Checks.due("feed " + k, x.feed(0x20202020, 0x20202020, 0x20202020, 0x20202020, 0x20202020), 20 * k);
        }
        Checks.due("feed beyond 400", x.feed(0, 0, 0, 0, 0), -1);
        Checks.due("count(6)", x.count(6), 400);
        Checks.due("fault of blanks", x.fault(), -1);
        Checks.due("end(401)", x.end(401), false);
        Checks.due("end(-1)", x.end(-1), false);
        Checks.due("end(400)", x.end(400), true);
        Checks.due("end(381)", x.end(381), true);
        Checks.due("feed beyond 400", x.feed(0, 0, 0, 0, 0), -1);
        Checks.due("end(382)", x.end(382), false);
        Checks.due("end(3)", x.end(3), true);
        // "wage" comes highest byte first, behind three blanks
        Checks.due("feed", x.feed(0x77616765, 0x20313b80, 0, 0, 0), 23);
        Checks.due("fault of a byte of no token", x.fault(), 10);
        Checks.due("end(10)", x.end(10), true);
        Checks.due("fault", x.fault(), -1);
        Checks.due("end(9)", x.end(9), true);
        Checks.due("fault of an early end", x.fault(), 9);
        Checks.due("count(6)", x.count(6), 9);
    }

    private static void fault(String text, int want) {
        WheelLand x = new WheelLand();
        Checks.write(x, text);
        Checks.due("fault of '" + text + "'", x.fault(), want);
        Checks.due("sheet of '" + text + "'", x.sheet(), want == -1 ? 0 : -1);
        Checks.due("bytes behind sheet of '" + text + "'", x.count(6), want == -1 ? 0 : text.length());
        Checks.due("sheets behind '" + text + "'", x.count(4), want == -1 ? 1 : 0);
    }

    private static void standing() {
        fault("", -1);
        fault(" \n \n", -1);
        fault("owe 1;", -1);
        fault("\nowe\n1\n;\n", -1);
        fault("stamp 1=1;may 2<3;duty 9999;wage 00009999;owe 0;", -1);
        fault("owe week+season-heads*wheels/skill+caste+other+count+strength+hanks+idle+far+price;", -1);
        fault("may not not 1=2 and [week>3 or far<2+3*(4-1)] or 2<1;", -1);
        fault("owe 1+2*3/4-(5);", -1);
        fault("wage (1)*(2);", -1);
        fault("owe 1week;", 5);
        fault("owe week 1;", 9);
        fault("owe week1;", 8);
    }

    private static void faults() {
        fault("x", 0);
        fault("ow 1;", 0);
        fault("owes 1;", 0);
        fault("1;", 0);
        fault(";", 0);
        fault("owe", 3);
        fault("owe  ", 5);
        fault("owe ;", 4);
        fault("owe 1", 5);
        fault("owe 1 2;", 6);
        fault("owe 10000;", 4);
        fault("owe 99999999999999999999;", 4);
        fault("owe 4294967297;", 4);
        fault("owe 1;;", 6);
        fault("owe 1;owe 2;", 6);
        fault("owe 1; may 1=1; owe $", 16);
        fault("owe 1;wage 1;duty 1;may 1=1;stamp 1=1;may 1=1;", 38);
        fault("owe owe;", 4);
        fault("owe and;", 4);
        fault("owe Week;", 4);
        fault("owe weekz;", 4);
        fault("owe aweek;", 4);
        fault("z", 0);
        fault("owe week`;", 8);
        fault("owe week{;", 8);
        fault("owe 1:;", 5);
        fault("owe 1+z;", 6);
        fault("owe +1;", 4);
        fault("owe 1+;", 6);
        fault("owe 1++1;", 6);
        fault("owe 1*/1;", 6);
        fault("owe 1=1;", 5);
        fault("owe 1<1;", 5);
        fault("owe [1=1];", 4);
        fault("owe not 1;", 4);
        fault("owe (1;", 6);
        fault("owe (1];", 6);
        fault("owe 1);", 5);
        fault("owe ();", 5);
        fault("may 1;", 5);
        fault("may 1=;", 6);
        fault("may 1==1;", 6);
        fault("may 1<2<3;", 7);
        fault("may (1=1);", 6);
        fault("may [1]=1;", 6);
        fault("may [1=1;", 8);
        fault("may [1=1);", 8);
        fault("may 1=1];", 7);
        fault("may 1=1 or;", 10);
        fault("may 1=1 and or 1=1;", 12);
        fault("may 1=1 not 1=1;", 8);
        fault("may or 1=1;", 4);
        fault("may not;", 7);
        fault("may week;", 8);
        fault("duty 1.5;", 6);
        fault("duty 1\t+1;", 6);
        fault("duty far$;", 8);
        fault("duty $;", 5);
        fault("duty ; $", 5);
        fault("duty 1;\u00ff", 7);
    }

    private static void deep() {
        fault("owe ((((((((1))))))));", -1);
        fault("owe (((((((((1)))))))));", 12);
        fault("may [[[[[[[[1=1]]]]]]]];", -1);
        fault("may [[[[[[[[[1=1]]]]]]]]];", 12);
        fault("may [[[[[[[[(1)=1]]]]]]]];", 12);
        fault("may not not not not not not not not 1=1;", -1);
        fault("may not not not not not not not not not 1=1;", 36);
        fault("may not [not [not [not [1=1]]]];", -1);
        fault("may not [not [not [not [(1)=1]]]];", 24);
        fault("may not [not [not [not [not 1=1]]]];", 24);
        // what closed is not open any more
        fault("may not 1=1 and not 1=1 and not 1=1 and not 1=1 and not 1=1 and not 1=1 and not 1=1"
                + " and not 1=1 and ((((((((1))))))))=1;", -1);
        fault("owe (1)+(1)+(1)+(1)+(1)+(1)+(1)+(1)+(1)+((((((((1))))))));", -1);
        fault("may [1=1] and not ((((((((1))))))))=1;", 25);
    }

    private static void sheets() {
        WheelLand x = new WheelLand();
        Checks.write(x, "owe week+week+week+week+week+week+week+week+week+week+week+week+week+week+week;");
        for (int k = 0; k < 40; k++) {
            Checks.due("fault asked again", x.fault(), -1);
        }
        Checks.write(x, "owe 1");
        Checks.due("sheet with a fault", x.sheet(), -1);
        Checks.due("the text stays", x.count(6), 5);
        for (int k = 0; k < 8; k++) {
            Checks.write(x, "owe 1;");
            Checks.due("sheet " + k, x.sheet(), k);
            Checks.due("the text is empty", x.count(6), 0);
        }
        Checks.write(x, "owe 1;");
        Checks.due("ninth sheet", x.sheet(), -1);
        Checks.due("the text stays", x.count(6), 6);
        Checks.due("count(4)", x.count(4), 8);
    }

    private static void forces() {
        WheelLand x = new WheelLand();
        Checks.write(x, "owe 1; wage 1;");
        x.sheet();
        Checks.write(x, "wage 2; duty 2; may 1=1;");
        x.sheet();
        Checks.write(x, "");
        x.sheet();
        Checks.due("force of none", x.force(3, 0), -1);
        Checks.due("force(-1, 0)", x.force(-1, 0), -1);
        Checks.due("force(0, -1)", x.force(0, -1), -1);
        Checks.due("force(0, 156)", x.force(0, 156), -1);
        Checks.due("force(0, 10)", x.force(0, 10), 1);
        Checks.due("force(1, 5)", x.force(1, 5), 2);
        Checks.due("force(2, 20)", x.force(2, 20), 3);
        int[][] want = {
            {0, 9, -1}, {0, 10, 0}, {0, 155, 0}, {1, 4, -1}, {1, 5, 1}, {1, 9, 1}, {1, 10, 0}, {1, 20, 0},
            {2, 4, -1}, {2, 5, 1}, {2, 10, 1}, {3, 5, 1}, {3, 155, 1}, {4, 155, -1}};
        for (int[] w : want) {
            Checks.due("why(" + w[0] + ", " + w[1] + ")", x.why(w[0], w[1]), w[2]);
        }
        Checks.due("why(5, 5)", x.why(5, 5), -1);
        Checks.due("why(-1, 5)", x.why(-1, 5), -1);
        Checks.due("why(1, 156)", x.why(1, 156), -1);
        Checks.due("why(1, -1)", x.why(1, -1), -1);
        Checks.due("force(1, 10)", x.force(1, 10), 4);
        Checks.due("the later one of like weeks", x.why(1, 10), 1);
        Checks.due("force(0, 10)", x.force(0, 10), 5);
        Checks.due("the later one of like weeks", x.why(1, 10), 0);
        Checks.due("force(1, 9)", x.force(1, 9), 6);
        Checks.due("an earlier week, put later", x.why(1, 10), 0);
        x.go(10);
        Checks.due("force ahead of now", x.force(0, 9), -1);
        for (int k = 7; k <= 12; k++) {
            Checks.due("force now", x.force(1, 10), k);
        }
        Checks.due("thirteenth force", x.force(1, 10), -1);
        for (int k = 0; k < 6; k++) {
            x.go(26);
        }
        Checks.due("why at 156", x.why(1, 155), 1);
        WheelLand y = new WheelLand();
        y.sheet();
        for (int k = 0; k < 6; k++) {
            y.go(26);
        }
        Checks.due("force at 156", y.force(0, 155), -1);
    }
}
