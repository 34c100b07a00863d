/** Promises 6 to 8: feed, text, force; and what the parts of a text tell. */
public final class TextsTest {
    private static final Check C = new Check();
    private static final int MIN = Integer.MIN_VALUE, MAX = Integer.MAX_VALUE;

    public static void main(String[] args) {
        feedCountsAndRefuses();
        textsAreNumbered();
        fullKeepsTheTape();
        faultsTellThePlace();
        theTapeHasNothingOfOneBefore();
        theTapeMayBeFull();
        opensAreCounted();
        valuesOfExpressions();
        namesTellThePieces();
        forceAnswersWhichWas();
        C.end();
    }

    private static void feedCountsAndRefuses() {
        EdgesOff x = new EdgesOff();
        for (int letter : new int[] {-1, 256, MIN, MAX}) {
            C.due("feed(" + letter + ")", x.feed(letter), EdgesOff.BAD);
        }
        for (int i = 1; i <= 160; i++) {
            C.due("feed " + i, x.feed(i % 2 == 0 ? 0 : 255), i);
        }
        C.due("a 161st byte", x.feed(32), EdgesOff.FULL);
        C.due("a 161st that is BAD", x.feed(256), EdgesOff.BAD);
        C.due("the tape stays", x.count(4), 160);
        C.due("a byte that begins none", x.text(), -100);
        C.due("the tape is empty behind a fault", x.count(4), 0);
        C.due("feed goes on anew", x.feed(32), 1);
    }

    private static void textsAreNumbered() {
        EdgesOff x = new EdgesOff();
        for (int i = 1; i <= 5; i++) {
            C.due("text " + i, Check.read(x, "wears " + i + ";carries 1;clashes 1;"), i);
            C.due("texts behind " + i, x.count(3), i + 1);
            C.due("the tape is empty", x.count(4), 0);
        }
        C.due("THE RULE stays", x.count(5), 0);
        x.piece(0, 0, 50, 0);
        for (int i = 1; i <= 5; i++) {
            x.force(i);
            C.due("text " + i + " is kept", x.told(0, 6), i);
        }
    }

    private static void fullKeepsTheTape() {
        EdgesOff x = new EdgesOff();
        for (int i = 1; i <= 5; i++) {
            Check.read(x, "wears 1;carries 1;clashes 1;");
        }
        Check.feed(x, "wears 1;carries 1;clashes 1;");
        C.due("a seventh text", x.text(), EdgesOff.FULL);
        C.due("the tape stays", x.count(4), 28);
        C.due("no text more", x.count(3), 6);
        x.feed('!');
        C.due("a seventh text with a fault", x.text(), EdgesOff.FULL);
        C.due("the tape stays then too", x.count(4), 29);
    }

    private static void faultsTellThePlace() {
        String end = ";carries 1;clashes 1;";
        fault("", 0);
        fault("   \n", 4);
        fault("wears", 5);
        fault("wears ", 6);
        fault("wears 1", 7);
        fault("wears 1;carries 1;clashes 1", 27);
        fault("wears 1;carries 1;clashes 1 \n", 29);
        fault("wears 1;carries 1;clashes 1;;", 28);
        fault("wears 1;carries 1;clashes 1; wears", 29);
        fault("wears 1;carries 1;clashes 1; \t", 29);
        fault("carries 1", 0);
        fault("wears 1;clashes 1;", 8);
        fault("wears ;", 6);
        fault("wears 12345" + end, 6);
        fault("wears 1+99999" + end, 8);
        fault("wears 00001" + end, 6);
        fault("wears 1 2" + end, 8);
        fault("wears sharps" + end, 6);
        fault("wears shar" + end, 6);
        fault("wears s" + end, 6);
        fault("wears carriesclashes" + end, 6);
        fault("wears wears" + end, 6);
        fault("wears notsharp" + end, 6);
        fault("wears Sharp" + end, 6);
        fault("wears sharpz" + end, 6);
        fault("wears asharp" + end, 6);
        fault("wears placesxy" + end, 6);
        fault("wears abcdefghijklmnopqrstuvwxyz" + end, 6);
        fault("wears clashesx" + end, 6);
        fault("wears notaword" + end, 6);
        fault("wears z" + end, 6);
        fault("wears sharp`" + end, 11);
        fault("wears 1:" + end, 7);
        fault("Wears 1" + end, 0);
        fault("wears 1/2" + end, 7);
        fault("wears 1\r;" + end, 7);
        fault("wears 1>2" + end, 7);
        fault("wears 1<2<3" + end, 9);
        fault("wears 1=2=3" + end, 9);
        fault("wears not 1<2=3" + end, 13);
        fault("wears 1+not 2" + end, 8);
        fault("wears 1<not 2" + end, 8);
        fault("wears -not 2" + end, 7);
        fault("wears not" + end, 9);
        fault("wears or 1" + end, 6);
        fault("wears 1 or" + end, 10);
        fault("wears 1 and or 2" + end, 12);
        fault("wears 1 not 2" + end, 8);
        fault("wears (1" + end, 8);
        fault("wears 1)" + end, 7);
        fault("wears ()" + end, 7);
        fault("wears (1 2)" + end, 9);
        fault("wears *1" + end, 6);
        fault("wears +1" + end, 6);
        fault("wears 1++2" + end, 8);
        fault("wears 1--2" + end, -1);
        fault("wears 1*-2" + end, -1);
        fault("wears2;carries1;clashes1;", -1);
        fault("\n wears\n2 ; carries 1 ; clashes 1 ;\n ", -1);
        fault("wears 2sharp" + end, 7);
        fault("wears not 1 and not 2 or not 3" + end, -1);
        fault("wears (not 1)+2" + end, -1);
        fault("wears (1<2)<3" + end, -1);
        fault("wears 1<2 and 2=3 or 1=1" + end, -1);
    }

    private static void theTapeHasNothingOfOneBefore() {
        EdgesOff x = new EdgesOff();
        C.due("a longer one", Check.read(x, "wears sharpsharpsharp;"), -106);
        C.due("a shorter one", Check.read(x, "wears sha"), -106);
        C.due("one that ends in a word", Check.read(x, "wears sharp"), -111);
        C.due("a longer one of digits", Check.read(x, "wears 9999999;"), -106);
        C.due("one that ends in digits", Check.read(x, "wears 99"), -108);
        C.due("a longer one of blanks", Check.read(x, "             ?"), -113);
        C.due("one that ends in blanks", Check.read(x, "wears  "), -107);
    }

    private static void theTapeMayBeFull() {
        String text = "wears 7;carries 1;clashes 1;";
        fault(text + " ".repeat(160 - text.length()), -1);
        fault(" ".repeat(160 - text.length()) + text, -1);
        fault("wears " + "1".repeat(154), 6);
        fault("wears 1+" + "a".repeat(152), 8);
        fault("wears 1+" + "1+".repeat(73) + "sharp*", 160);
        fault("wears 1+" + "1+".repeat(73) + " sharp", 160);
        fault("wears 1+" + "1+".repeat(74) + "1234", 160);
        fault(" ".repeat(160), 160);
        // as many tokens as can be
        fault("wears" + "-1".repeat(65) + ";carries1;clashes1;", -1);
        fault("wears1" + "*1".repeat(67) + ";carries1;clashes1;", -1);
        value("1" + "+1".repeat(64), 65);
    }

    private static void opensAreCounted() {
        String end = ";carries 1;clashes 1;";
        fault("wears (((((1)))))" + end, -1);
        fault("wears ((((((1))))))" + end, 11);
        fault("wears -----1" + end, -1);
        fault("wears ------1" + end, 11);
        fault("wears not not not not not 1" + end, -1);
        fault("wears not not not not not not 1" + end, 26);
        fault("wears not(-(not 1))" + end, -1);
        fault("wears not(-(not-1))" + end, 15);
        fault("wears not(-(not 1-1))" + end, -1);
        fault("wears not(-(not(1)))" + end, 15);
        fault("wears not(-(not not 1))" + end, 16);
        fault("wears not 1<----1" + end, -1);
        fault("wears not 1<-----1" + end, 16);
        fault("wears not 1 and -----1" + end, -1);
        fault("wears not 1+-----1" + end, 16);
        fault("wears -----1+-----1*-----1" + end, -1);
        fault("wears (1)+(((((1)))))" + end, -1);
        fault("wears (((((1)+1)+1)+1)+(1))" + end, -1);
        fault("wears not not not not not 1 or not not not not not 1" + end, -1);
    }

    private static void fault(String text, int place) {
        EdgesOff x = new EdgesOff();
        C.due("the fault of " + text, Check.read(x, text), place < 0 ? 1 : -100 - place);
        C.due("its texts", x.count(3), place < 0 ? 2 : 1);
        C.due("its tape", x.count(4), 0);
    }

    private static void valuesOfExpressions() {
        value("2+3*4", 14);
        value("(2+3)*4", 20);
        value("9-4-3", 2);
        value("-2*-3", 6);
        value("- - 7", 7);
        value("1<2", 1);
        value("2<2", 0);
        value("2=2", 1);
        value("1+1<3", 1);
        value("not 0", 1);
        value("not 7", 0);
        value("not not 7", 1);
        value("not 1<2", 0);
        value("not 5+0-5", 1);
        value("7 or 0", 1);
        value("0 or 0", 0);
        value("7 and 8", 1);
        value("7 and 0", 0);
        value("1 and 1", 1);
        value("1 or 1", 1);
        value("0 or 1", 1);
        value("1 or 1 and 0", 1);
        value("(1 or 1) and 0", 0);
        value("not 0 and 0", 0);
        value("0 and 0 or 1", 1);
        value("0000", 0);
        value("0042", 42);
        value("(9999*9999*9999*9999=0-1*9999*9999*9999*-9999)*3", 3);
        value("9999*9999*43-(9999*9999*43-8)", 8);
        value("9999*9999*43-4000*1000", 9999 * 9999 * 43 - 4000 * 1000 > 99 ? 99 : 0);
        value("9999*9999*9999*9999*9999*9999*9999*9999*0+5", 5);
        value("(9999*9999*9999<0)*11", (9999 * 9999 * 9999 < 0 ? 1 : 0) * 11);
        value("(9999*9999*99<0)*11", (9999 * 9999 * 99 < 0 ? 1 : 0) * 11);
        value("theirs+apart", 0);
    }

    private static void value(String text, int due) {
        EdgesOff x = Check.under(text, "1", "1");
        x.piece(0, 0, 50, 0);
        x.piece(0, 0, 50, 6);
        C.due("the value of " + text, x.told(0, 6), due);
    }

    private static void namesTellThePieces() {
        EdgesOff x = Check.under("sharp", "number*10+place", "1");
        x.piece(0, 7, 63, 105);
        C.due("sharp", x.told(0, 6), 63);
        C.due("number and place", x.carried(0), 75);
        x = Check.under("tide-900", "theirs+apart+3", "1");
        x.piece(0, 7, 63, 105);
        x.set(0, 0, 955);
        C.due("tide", x.told(0, 6), 55);
        C.due("theirs and apart of carries", x.carried(0), 3);
        clash("sharp=11", 2, 0);
        clash("theirs=22", 2, 0);
        clash("sharp=22", 0, 1);
        clash("apart=2", 2, 1);
        clash("apart=10", 0, 0);
        clash("number=3", 2, 0);
        clash("number=4", 0, 1);
        clash("place=1", 2, 0);
        clash("place=11", 0, 1);
        clash("tide=4", 2, 1);
    }

    /** Two of unlike SIDES at 1 and 11: with which each of them CLASHES. */
    private static void clash(String text, int ofOne, int ofOther) {
        EdgesOff x = Check.under("1", "1", text);
        x.piece(0, 3, 11, 1);
        x.piece(0, 4, 22, 111);
        x.set(0, 0, 4);
        C.due("told(0, 7) by " + text, x.told(0, 7), ofOne);
        C.due("told(1, 7) by " + text, x.told(1, 7), ofOther);
    }

    private static void forceAnswersWhichWas() {
        EdgesOff x = new EdgesOff();
        for (int text : new int[] {-1, 1, 6, MIN, MAX}) {
            C.due("force(" + text + ")", x.force(text), EdgesOff.BAD);
        }
        Check.read(x, "wears 3;carries 4;clashes 0;");
        C.due("force(1)", x.force(1), 0);
        C.due("count(5)", x.count(5), 1);
        C.due("force(2)", x.force(2), EdgesOff.BAD);
        C.due("count(5) then", x.count(5), 1);
        C.due("force(1) again", x.force(1), 1);
        C.due("force(0)", x.force(0), 1);
        x.piece(0, 0, 9, 0);
        C.due("TEXT 0 wears 2", x.told(0, 6), 2);
        C.due("TEXT 0 carries 1", x.carried(0), 1);
    }
}
