/** The boundary cases of promises 6 to 8 and of THE TAPE, its TOKENS, TEXTS and FAULTS, sentence by sentence. */
public final class TextsBoundsTest {
    /** The greatest int there is, of numbers of 4 digits. */
    static final String GREATEST = "9999*9999*21+4790*9999+8416";

    private static final Check C = new Check();
    private static final Twins T = new Twins(C);
    private static final int BAD = EdgesOff.BAD, FULL = EdgesOff.FULL;
    private static final String END = ";carries 1;clashes 1;";

    public static void main(String[] args) {
        bytesHaveBounds();
        theTapeHas160();
        badIsAheadOfFull();
        anEmptyTapeHasAFault();
        theTapeIsEmptyThen();
        sixTexts();
        fullIsAheadOfAFault();
        forceHasBounds();
        wordsAreOfLetters();
        numbersAreOfDigits();
        signsAreEight();
        blanksAreTwo();
        tokensAreAsLongAsCanBe();
        theThreeParts();
        oneComparison();
        notsStandAheadOfSums();
        whatEndsTooEarly();
        theFirstFaultIsTold();
        namesAndKeys();
        fiveAreOpen();
        openTillItsEnd();
        anIntWraps();
        trueIsOne();
        theOtherIs0();
        ofTheOneThatIsAsked();
        textNumber0();
        C.end();
    }

    private static void fault(String text, int place) {
        EdgesOff x = new EdgesOff();
        C.due("text() of \"" + text + "\"", Check.read(x, text), -100 - place);
        C.due("TEXTS behind a FAULT", x.count(3), 1);
        C.due("THE TAPE behind a FAULT", x.count(4), 0);
    }

    private static void good(String text) {
        EdgesOff x = new EdgesOff();
        C.due("text() of \"" + text + "\"", Check.read(x, text), 1);
        C.due("TEXTS behind it", x.count(3), 2);
        C.due("THE TAPE behind it", x.count(4), 0);
    }

    /** What an E comes to, told by carries between its bounds. */
    private static void value(String e, int due) {
        EdgesOff x = Check.under("1", e, "1");
        x.piece(0, 3, 50, 7);
        C.due("the value of " + e, x.carried(0), due);
    }

    private static void bytesHaveBounds() {
        C.sentence("A byte (0 .. 255) comes behind THE TAPE: how many it has. BAD; FULL.");
        T.bounds("feed(v)", Twins.SOME, 0, 255, (x, v) -> x.feed(v), BAD);
        T.bounds("feed(v)", Twins.BARE, 0, 255, (x, v) -> x.feed(v), BAD);
        EdgesOff x = new EdgesOff();
        C.due("feed(0)", x.feed(0), 1);
        C.due("feed(255)", x.feed(255), 2);
        C.due("count(4)", x.count(4), 2);
    }

    private static void theTapeHas160() {
        C.sentence("A TEXT is read from THE TAPE (160 bytes at most).");
        EdgesOff x = new EdgesOff();
        for (int i = 1; i <= 160; i++) {
            C.due("byte " + i, x.feed(32), i);
        }
        C.due("byte 161", x.feed(32), FULL);
        C.due("count(4)", x.count(4), 160);
        C.due("text()", x.text(), -260);
        C.due("the first byte then", x.feed(32), 1);
        T.asked("a byte behind 160", Twins.FULL, y -> y.feed('x'), FULL);
        String text = "wears 1;carries 1;clashes 1;";
        good(text + " ".repeat(160 - text.length()));
        good(" ".repeat(160 - text.length()) + text);
        fault(" ".repeat(159 - text.length()) + text + "?", 159);
        fault(" ".repeat(161 - text.length()) + text.substring(0, text.length() - 1), 160);
        fault(text + " ".repeat(159 - text.length()) + ";", 159);
    }

    private static void badIsAheadOfFull() {
        C.sentence("Refusals, the first that the call's words name; they change nothing");
        T.asked("feed(256) behind 160", Twins.FULL, x -> x.feed(256), BAD);
        T.asked("feed(-1) behind 160", Twins.FULL, x -> x.feed(-1), BAD);
    }

    private static void anEmptyTapeHasAFault() {
        C.sentence("-100 less the place of its FAULT");
        EdgesOff x = new EdgesOff();
        C.due("text() of nothing", x.text(), -100);
        C.due("text() of nothing again", x.text(), -100);
        x.feed(0);
        C.due("text() of a byte that begins none", x.text(), -100);
        fault(" ", 1);
        fault("wears", 5);
    }

    private static void theTapeIsEmptyThen() {
        C.sentence("THE TAPE, which is empty then, is a TEXT: its number");
        EdgesOff x = new EdgesOff();
        C.due("a text", Check.read(x, "wears 1" + END), 1);
        C.due("count(4)", x.count(4), 0);
        C.due("the tape alone", x.text(), -100);
        C.due("a faulty one", Check.read(x, "wears 1" + END + "1"), -128);
        C.due("count(4) behind a fault", x.count(4), 0);
        C.due("THE RULE stays", x.count(5), 0);
        C.due("the next", Check.read(x, "wears 2" + END), 2);
        C.due("a shorter one has nothing of one ahead", Check.read(x, "wears 1;carries"), -115);
        C.due("THE RULE still stays", x.count(5), 0);
    }

    private static void sixTexts() {
        C.sentence("There are 6 TEXTS at most, TEXT 0 with them.");
        EdgesOff x = new EdgesOff();
        C.due("TEXTS at first", x.count(3), 1);
        for (int i = 1; i <= 5; i++) {
            C.due("text " + i, Check.read(x, "wears " + i + END), i);
        }
        C.due("TEXTS", x.count(3), 6);
        Check.feed(x, "wears 6" + END);
        C.due("one more", x.text(), FULL);
        C.due("TEXTS then", x.count(3), 6);
        C.due("THE TAPE stays", x.count(4), 28);
        C.due("one more byte", x.feed(32), 29);
        x.piece(0, 0, 50, 0);
        for (int i = 1; i <= 5; i++) {
            x.force(i);
            C.due("text " + i + " is as it was", x.told(0, 6), i);
        }
        T.asked("text() with 6 TEXTS", Twins.FULL, y -> y.text(), FULL);
    }

    private static void fullIsAheadOfAFault() {
        C.sentence("FULL: no TEXT more has room (THE TAPE stays).");
        EdgesOff x = new EdgesOff();
        for (int i = 1; i <= 5; i++) {
            Check.read(x, "wears " + i + END);
        }
        C.due("no byte", x.text(), FULL);
        x.feed('?');
        C.due("a fault", x.text(), FULL);
        C.due("THE TAPE stays", x.count(4), 1);
    }

    private static void forceHasBounds() {
        C.sentence("A TEXT is THE RULE: which was. BAD.");
        T.bounds("force(v)", Twins.BARE, 0, 0, (x, v) -> x.force(v), BAD);
        T.bounds("force(v)", Twins.SOME, 0, 1, (x, v) -> x.force(v), BAD);
        T.bounds("force(v)", Twins.FULL, 0, 5, (x, v) -> x.force(v), BAD);
        EdgesOff x = Twins.made(Twins.FULL);
        C.due("force(0)", x.force(0), 5);
        C.due("force(5)", x.force(5), 0);
        C.due("force(5) again", x.force(5), 5);
        EdgesOff y = new EdgesOff();
        Check.read(y, "wears 1" + END + "?");
        C.due("force() of one with a fault", y.force(1), BAD);
    }

    private static void wordsAreOfLetters() {
        C.sentence("WORDS (a .. z)");
        fault("wears `" + END, 6);
        fault("wears {" + END, 6);
        fault("wears sharp`" + END, 11);
        fault("wears sharp{" + END, 11);
        fault("wears SHARP" + END, 6);
        fault("wears sharP" + END, 6);
        fault("Wears 1" + END, 0);
        fault("wears a" + END, 6);
        fault("wears z" + END, 6);
        fault("wears sharpa" + END, 6);
        fault("wears sharpz" + END, 6);
        fault("wears " + "z".repeat(154), 6);
        fault("wears sharp_tide" + END, 11);
        fault("wears " + (char) 225 + END, 6);
    }

    private static void numbersAreOfDigits() {
        C.sentence("NUMBERS (digits, 4 at most)");
        good("wears 0" + END);
        good("wears 9999" + END);
        good("wears 0000" + END);
        fault("wears 10000" + END, 6);
        fault("wears 00000" + END, 6);
        fault("wears 1+00001" + END, 8);
        fault("wears 1*" + "1".repeat(152), 8);
        fault("wears 1/" + END, 7);
        fault("wears 1:" + END, 7);
        fault("wears /" + END, 6);
        fault("wears :" + END, 6);
        fault("wears " + (char) 178 + END, 6);
        value("0", 0);
        value("0009", 9);
        value("0010", 10);
        value("(9999=9999)*7", 7);
        value("1000-999", 1);
        value("9999-9990", 9);
    }

    private static void signsAreEight() {
        C.sentence("SIGNS ( ) ; + - * < =");
        good("wears(1+2-3*4)<5;carries 1=1;clashes 1;");
        for (int letter = 0; letter <= 255; letter++) {
            boolean isLetter = letter >= 'a' && letter <= 'z';
            boolean isDigit = letter >= '0' && letter <= '9';
            if (!isLetter && !isDigit && "();+-*<= \n".indexOf(letter) < 0) {
                fault("wears 1 " + (char) letter + END, 8);
            }
        }
    }

    private static void blanksAreTwo() {
        C.sentence("blanks (32, 10) may stand between");
        good("\n \n wears\n \n1 ; \ncarries 1\n;\nclashes 1 ;\n\n");
        good("wears1;carries1;clashes1;");
        for (char letter : new char[] {9, 11, 12, 13, 31, 33, 0, 160}) {
            fault("wears" + letter + "1" + END, 5);
            fault(letter + "wears 1" + END, 0);
            fault("wears 1" + END + letter, 28);
        }
        fault("wears sha rp" + END, 6);
        fault("wears 1 1" + END, 8);
        fault("wears 1\n1" + END, 8);
        fault("wea rs 1" + END, 0);
    }

    private static void tokensAreAsLongAsCanBe() {
        C.sentence("TOKENS, each as long as can be");
        fault("wears notsharp" + END, 6);
        fault("wears 1 ornot 2" + END, 8);
        fault("wearssharp" + END, 0);
        fault("wears 12345" + END, 6);
        good("wears 1or not 2and 3" + END);
        good("wears 1or(2)and-3" + END);
        fault("wears sharp1" + END, 11);
        fault("wears 1sharp" + END, 7);
    }

    private static void theThreeParts() {
        C.sentence("TEXT: wears E ; carries E ; clashes E ;");
        good("wears 1;carries 1;clashes 1;");
        fault("carries 1;wears 1;clashes 1;", 0);
        fault("wears 1;clashes 1;carries 1;", 8);
        fault("wears 1;carries 1;wears 1;", 18);
        fault("wears;carries 1;clashes 1;", 5);
        fault("wears 1;carries;clashes 1;", 15);
        fault("wears 1;carries 1;clashes;", 25);
        fault("wears 1 carries 1;clashes 1;", 8);
        fault("wears 1;carries 1 clashes 1;", 18);
        fault("wears 1;;carries 1;clashes 1;", 8);
        fault("wears 1;carries 1;clashes 1;;", 28);
        fault("wears 1;carries 1;clashes 1;wears", 28);
        fault("1;carries 1;clashes 1;", 0);
        fault(";", 0);
    }

    private static void oneComparison() {
        C.sentence("NOT: not NOT, or SUM, perhaps < or = and a SUM.");
        good("wears 1<2" + END);
        good("wears 1=2" + END);
        fault("wears 1<2<3" + END, 9);
        fault("wears 1=2=3" + END, 9);
        fault("wears 1<2=3" + END, 9);
        fault("wears not 1<2<3" + END, 13);
        good("wears (1<2)<3" + END);
        good("wears 1<(2<3)" + END);
        fault("wears 1<=2" + END, 8);
        fault("wears 1<" + END, 8);
        fault("wears <1" + END, 6);
        fault("wears =1" + END, 6);
    }

    private static void notsStandAheadOfSums() {
        C.sentence("NOT: not NOT, or SUM");
        good("wears not 1 and not 2 or not 3" + END);
        good("wears (not 1)*2" + END);
        fault("wears 1+not 2" + END, 8);
        fault("wears 1*not 2" + END, 8);
        fault("wears 1=not 2" + END, 8);
        fault("wears -not 2" + END, 7);
        fault("wears 1 not 2" + END, 8);
        fault("wears not" + END, 9);
        value("not 1<0", 1);
        value("not 0+5", 0);
        value("not 3=3", 0);
        value("(not 0)+5", 6);
    }

    private static void whatEndsTooEarly() {
        C.sentence("the text's size, if it ends too early");
        String text = "wears (1) ; carries 1 ; clashes 1 ;";
        for (int size = 0; size < text.length(); size++) {
            boolean cutsAWord = size > 0 && Character.isLetter(text.charAt(size - 1)) && Character.isLetter(text.charAt(size));
            if (!cutsAWord) {
                fault(text.substring(0, size), size);
            }
        }
        fault("wears 1 or \n", 12);
        fault("wears not ", 10);
        fault("wears -", 7);
        fault("wears 1<", 8);
        fault("wears wear", 6);
    }

    private static void theFirstFaultIsTold() {
        C.sentence("FAULT: the place of the first byte of the first TOKEN that can't stand there");
        fault("wears 1 2 ? 12345 foo", 8);
        fault("wears ? 1 2", 6);
        fault("wears foo ?", 6);
        fault("wears 12345 ?", 6);
        fault("? foo", 0);
        fault("foo ?", 0);
        fault("wears 1) ?", 7);
        fault("wears ) ?", 6);
        fault("wears (1 ; ?", 9);
        fault("wears 1 ;   wears", 12);
    }

    private static void namesAndKeys() {
        C.sentence("a WORD that is neither KEY nor NAME");
        String[] names = {"sharp", "theirs", "apart", "number", "tide", "place"};
        for (String name : names) {
            good("wears " + name + END);
            fault("wears " + name.substring(0, name.length() - 1) + END, 6);
            fault("wears " + name.substring(1) + END, 6);
            fault("wears " + name + "s" + END, 6);
            fault("wears s" + name + END, 6);
        }
        String[] keys = {"wears", "carries", "clashes", "or", "and"};
        for (String key : keys) {
            fault("wears " + key + END, 6);
            fault("wears 1 " + key + "s 1" + END, 8);
        }
        fault("wear 1" + END, 0);
        fault("wearss 1" + END, 0);
        fault("wears 1;carrie 1;clashes 1;", 8);
        fault("wears 1;carriess 1;clashes 1;", 8);
        fault("wears 1;carries 1;clashe 1;", 18);
        fault("wears 1;carries 1;clashess 1;", 18);
        fault("wears 1 o 1" + END, 8);
        fault("wears 1 an 1" + END, 8);
        fault("wears no 1" + END, 6);
        fault("wears nott 1" + END, 6);
    }

    private static void fiveAreOpen() {
        C.sentence("a ( , a not, a - ahead of a ONE while 5 of these are open");
        good("wears (((((1)))))" + END);
        fault("wears ((((((1))))))" + END, 11);
        good("wears -----1" + END);
        fault("wears ------1" + END, 11);
        good("wears not not not not not 1" + END);
        fault("wears not not not not not not 1" + END, 26);
        good("wears not(not(-1))" + END);
        fault("wears not(not(-(1)))" + END, 15);
        fault("wears not(not(--1))" + END, 15);
        fault("wears (((((not 1)))))" + END, 11);
        fault("wears (((((-1)))))" + END, 11);
        good("wears (((((1-1)))))" + END);
        fault("wears 1-------1" + END, 13);
        good("wears 1------1" + END);
        fault("wears (((((1;", 12);
    }

    private static void openTillItsEnd() {
        C.sentence("a ( till its ) , not and - till what they belong to ends");
        good("wears (((((1)))))+(((((1)))))" + END);
        good("wears (((((1)+1)+1)+1)+(1))" + END);
        good("wears ((((1)+(1))))+(1)" + END);
        fault("wears ((((1+((1))))))" + END, 13);
        good("wears -----1*-----1+-----1" + END);
        good("wears -----1-1" + END);
        good("wears ----(1)-(1)" + END);
        good("wears ((((-1*-1))))" + END);
        good("wears not not not not not 1 and not not not not not 1" + END);
        good("wears not not not not not 1 or(((((1)))))" + END);
        fault("wears not not not not not 1+-1" + END, 28);
        fault("wears not not not not not 1<-1" + END, 28);
        fault("wears not not not not not 1=(1)" + END, 28);
        fault("wears not not not not not 1*(1)" + END, 28);
        good("wears not not not not 1+-1+-1*(1)<-1" + END);
        good("wears not -1 and -----1" + END);
        fault("wears not 1+-----1" + END, 16);
        good("wears -----1;carries -----1;clashes -----1;");
        good("wears not not not not not 1;carries not not not not not 1;clashes not not not not not 1;");
    }

    private static void anIntWraps() {
        C.sentence("An E is an int (32 bits, wrapping)");
        value("(" + GREATEST + "<0)+2*(0<" + GREATEST + ")", 2);
        value("(" + GREATEST + "+1<0)*3", 3);
        value("(0-(" + GREATEST + ")-1<0)*3", 3);
        value("(0<0-(" + GREATEST + ")-2)*3", 3);
        value("(-(" + GREATEST + "+1)=" + GREATEST + "+1)*3", 3);
        value("(-1*(" + GREATEST + "+1)<0)*3", 3);
        value("(" + GREATEST + ")*2", -2);
        value("(" + GREATEST + ")*(" + GREATEST + ")", 1);
        value("4096*4096*256+5", 5);
        value("4096*4096*128*2+6", 6);
        value("(4096*4096*128<0)*7", 7);
    }

    private static void trueIsOne() {
        C.sentence("of or, and, not, <, = 1 or 0 (what is not 0 is true)");
        value("5 or 0", 1);
        value("0 or -5", 1);
        value("0 or 0", 0);
        value("2 or 3", 1);
        value("2 and 4", 1);
        value("-1 and 1", 1);
        value("0 and 4", 0);
        value("4 and 0", 0);
        value("0 and 0", 0);
        value("not 0", 1);
        value("not 1", 0);
        value("not -1", 0);
        value("not 2", 0);
        value("1<2", 1);
        value("2<2", 0);
        value("3<2", 0);
        value("-1<0", 1);
        value("1=2", 0);
        value("2=2", 1);
        value("3=2", 0);
        value("4096*4096*256 or 0", 0);
        value("not 4096*4096*256", 1);
        value("1 or 0 and 0", 1);
        value("0 and 0 or 1", 1);
        value("not 1 or 1", 1);
        value("not 0 and 0", 0);
        value("1-2-3", -4);
        value("2-3*4", -10);
        value("-2*3", -6);
        value("-2+3", 1);
    }

    private static void theOtherIs0() {
        C.sentence("of wears, carries theirs, apart 0");
        EdgesOff x = Check.under("theirs+apart+4", "theirs*9+apart*9-3", "theirs=9 and apart=6");
        x.piece(0, 0, 50, 0);
        x.piece(0, 0, 9, 106);
        C.due("wears", x.told(0, 6), 4);
        C.due("carries", x.carried(0), -3);
        C.due("clashes", x.told(0, 7), 2);
        C.due("clashes, the other", x.told(1, 7), 0);
        C.due("wears, then", x.told(0, 6), 4);
        C.due("carries, then", x.carried(1), -3);
    }

    private static void ofTheOneThatIsAsked() {
        C.sentence("Of one of PIECES (and, of clashes, another one)");
        EdgesOff x = Check.under("sharp+place", "number*10+place", "place+theirs=17");
        x.piece(0, 1, 20, 2);
        x.piece(0, 3, 15, 104);
        for (int again = 0; again < 2; again++) {
            C.due("carries of the first", x.carried(0), 12);
            C.due("carries of the second", x.carried(1), 34);
            C.due("clashes of the first", x.told(0, 7), 2);
            C.due("carries of the first behind clashes", x.carried(0), 12);
            C.due("wears of the first", x.told(0, 6), 22);
            C.due("carries of the second behind wears", x.carried(1), 34);
            C.due("wears of the second behind its carries", x.told(1, 6), 19);
            C.due("clashes of the second", x.told(1, 7), 0);
            C.due("wears of the first behind clashes", x.told(0, 6), 22);
        }
        // of a PIECE that is ROUND nothing is worn, but where it lies is asked all the same
        EdgesOff y = Check.under("1", "place", "1");
        y.piece(0, 0, 9, 1);
        y.piece(0, 0, 0, 4);
        y.tide();
        C.due("the first is carried by its PLACE", y.told(0, 3), 2);
        C.due("the second, ROUND, by its own", y.told(1, 3), 8);
    }

    private static void textNumber0() {
        C.sentence("TEXT 0, at first THE RULE, is: wears 2 ; carries 1 ; clashes 1 ;");
        EdgesOff x = new EdgesOff();
        x.piece(0, 0, 50, 0);
        x.piece(0, 0, 50, 106);
        C.due("count(5)", x.count(5), 0);
        C.due("wears 2", x.told(0, 6), 2);
        C.due("carries 1", x.carried(0), 1);
        C.due("clashes 1", x.told(0, 7), 2);
        C.due("force(0)", x.force(0), 0);
    }
}
