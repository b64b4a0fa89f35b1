/** The sentences about texts that name a boundary ("Texts", promises 15 to 18), each by a test of its own. */
final class TextTests extends Scenes {
    private static final String[] LETTERS = {"g", "h", "p", "w", "c"};

    private TextTests() {
    }

    static void run() {
        initiallyEmpty();
        eightyCharacters();
        charactersTyped();
        clearing();
        everyForm();
        digits();
        separators();
        letters();
        withoutEnd();
        positions();
        lastPosition();
        firstFault();
        thoseAheadAreDone();
        causes();
        causesOfPledges();
        valuesInTexts();
        whatOfFault();
        faultChangesNothing();
        fullTextPlayed();
        manyCommands();
        playOfNothing();
        playIsOneChange();
        playOfFault();
    }

    /** "a text of at most 80 characters, initially empty". */
    private static void initiallyEmpty() {
        PledgeTips x = new PledgeTips();
        due("13: length at first", x.count(12), 0);
        due("16: length it had", x.clearText(), 0);
        for (int what = 0; what <= 2; what++) {
            due("17: no fault of an empty text, what " + what, x.fault(what), MISSING);
        }
        due("18: no command", x.play(), 0);
        due("15: the first character", x.type('g'), 1);
    }

    /** "LIMIT_REACHED if it has 80 characters". */
    private static void eightyCharacters() {
        PledgeTips x = new PledgeTips();
        for (int length = 1; length <= 80; length++) {
            due("15: character " + length, x.type('a'), length);
        }
        due("15: character 81", x.type('a'), LIMIT);
        due("15: character 81 that is no character", x.type(127), INVALID);
        due("15: character 81 that is too small", x.type(31), INVALID);
        due("13: still 80", x.count(12), 80);
        due("16: 80 were there", x.clearText(), 80);
        due("15: there is room again", x.type('a'), 1);
    }

    /** "character: 32 to 126". */
    private static void charactersTyped() {
        PledgeTips x = new PledgeTips();
        int[] wrong = {31, 127, 0, -1, 10, 128, 255, 256 + 103, 65536 + 103, -65536 + 103,
            Integer.MIN_VALUE, Integer.MAX_VALUE};
        for (int character : wrong) {
            due("15: type(" + character + ")", x.type(character), INVALID);
        }
        due("15: nothing was typed", x.count(12), 0);
        due("15: type(32)", x.type(32), 1);
        due("15: type(126)", x.type(126), 2);
        due("15: type(33)", x.type(33), 3);
        due("15: type(125)", x.type(125), 4);
    }

    /** "Empties the text. Returns the length it had." */
    private static void clearing() {
        PledgeTips x = new PledgeTips();
        type(x, "g5;h5;");
        due("16: the length", x.clearText(), 6);
        due("13: none", x.count(12), 0);
        due("16: none any more", x.clearText(), 0);
        type(x, "g5");
        due("17: what was there is not read", x.fault(1), 1);
        type(x, ";");
        due("18: one command", x.play(), 1);
        due("18: it is a project", x.count(0) * 10 + x.count(1), 10);
        x.clearText();
        due("16: the states stay", x.count(11), 1);
        due("14: undo of what was played", x.undo(), 0);
        due("14: the text is not there again", x.count(12), 0);
    }

    /** Each command alone, in its shortest and its longest form. */
    private static void everyForm() {
        PledgeTips x = with(2, 5, 5);
        x.pledge(0, 1, 5, 0, 0);
        String[] good = {"g1;", "g999;", "g001;", "h0;", "h999;", "h000;", "w0;", "w000;", "c1;", "c001;",
            "p0,0,1,0,0;", "p001,001,994,001,999;", "p0,0,1,2,11;", "p1,0,1,3,0;", "p1,1,1,4,000;"};
        for (String text : good) {
            dueFault(text, x, MISSING, MISSING, MISSING);
            due("14: undo of " + text, x.undo(), 3);
        }
        dueFault("g12;h0;p1,0,7,3,2;w1;p2,2,1,0,0;", x, 21, 2, IMPOSSIBLE);
        dueFault("g12;h1;p1,0,7,3,2;w1;p2,2,1,0,0;c1;", x, MISSING, MISSING, MISSING);
    }

    /** "numbers of one to three digits, 0 ahead allowed". */
    private static void digits() {
        PledgeTips x = with(2, 5, 5);
        for (String letter : new String[] {"g", "h", "w", "c"}) {
            dueFault(letter + ";", x, 0, 1, MISSING);
            dueFault(letter + "0001;", x, 0, 1, MISSING);
            dueFault(letter + "1000;", x, 0, 1, MISSING);
            dueFault(letter + "0000;", x, 0, 1, MISSING);
            dueFault(letter + "/;", x, 0, 1, MISSING);
            dueFault(letter + ":;", x, 0, 1, MISSING);
        }
        x = with(2, 5, 5);
        String[] numbers = {"0", "1", "5", "1", "3"};
        for (int i = 0; i < numbers.length; i++) {
            dueFault(pledgeWith(numbers, i, ""), x, 0, 1, MISSING);
            dueFault(pledgeWith(numbers, i, "000" + numbers[i]), x, 0, 1, MISSING);
            dueFault(pledgeWith(numbers, i, "-" + numbers[i]), x, 0, 1, MISSING);
            dueFault(pledgeWith(numbers, i, "00" + numbers[i]), x, MISSING, MISSING, MISSING);
        }
        x = new PledgeTips();
        retype(x, "g999;g090;g9;h012;h908;");
        due("18: numbers of all lengths", x.play(), 5);
        due("18: three digits", x.projectOf(0, 0), 999);
        due("18: 0 ahead", x.projectOf(1, 0), 90);
        due("18: one digit", x.projectOf(2, 0), 9);
        due("18: not of base 8", x.personOf(0, 0), 12);
        due("18: all ten digits do", x.personOf(1, 0), 908);
        retype(x, "g123;");
        x.play();
        due("18: digits in their order", x.projectOf(3, 0), 123);
    }

    private static String pledgeWith(String[] numbers, int place, String number) {
        String[] changed = numbers.clone();
        changed[place] = number;
        return "p" + String.join(",", changed) + ";";
    }

    /** "p" a person "," a project "," an amount "," a kind "," a value, and each command followed by ";". */
    private static void separators() {
        PledgeTips x = with(2, 5, 5);
        String good = "p0,0,1,0,0;";
        for (int i = 0; i < good.length(); i++) {
            x = with(2, 5, 5);
            String ahead = good.substring(0, i);
            String behind = good.substring(i + 1);
            dueFault(ahead + behind, x, 0, 1, MISSING);
            dueFault(ahead + " " + behind, x, 0, 1, MISSING);
            dueFault(ahead + " " + good.substring(i), x, 0, 1, MISSING);
            if (good.charAt(i) == ',') {
                dueFault(ahead + ";" + behind, x, 0, 1, MISSING);
                dueFault(ahead + ",," + behind, x, 0, 1, MISSING);
            }
        }
        dueFault("p0,0,1,0,0,;", x, 0, 1, MISSING);
        dueFault("p0,0,1,0,0,0;", x, 0, 1, MISSING);
        dueFault("p0,0,1,0;", x, 0, 1, MISSING);
        dueFault("p0;", x, 0, 1, MISSING);
        dueFault("g5,;", x, 0, 1, MISSING);
        dueFault("g5,5;", x, 0, 1, MISSING);
        dueFault("g5:", x, 0, 1, MISSING);
        dueFault("g5 ;", x, 0, 1, MISSING);
        dueFault("g 5;", x, 0, 1, MISSING);
        dueFault("g5,", x, 0, 1, MISSING);
    }

    /** The five letters, small ones, and no others. */
    private static void letters() {
        for (char letter = 32; letter <= 126; letter++) {
            PledgeTips x = with(1, 5);
            x.pledge(0, 0, 5, 0, 0);
            boolean known = "ghwc".indexOf(letter) >= 0;
            String text = letter + "0;";
            retype(x, text);
            due("17: reason of " + text, x.fault(1), known ? (letter == 'g' ? 2 : MISSING) : 1);
            retype(x, letter + "0,0,1,0,0;");
            due("17: reason of " + letter + "0,0,1,0,0;", x.fault(1), letter == 'p' ? MISSING : 1);
        }
    }

    /** "its reason is 1 if it is not of this form, its ";" included": a text that ends too early, at every place. */
    private static void withoutEnd() {
        PledgeTips x = with(1, 5, 5, 5);
        String whole = "p00,002,10,01,003;";
        for (int length = 1; length < whole.length(); length++) {
            dueFault(whole.substring(0, length), x, 0, 1, MISSING);
        }
        dueFault(whole, x, MISSING, MISSING, MISSING);
        for (String letter : LETTERS) {
            dueFault("h1;" + letter, x, 3, 1, MISSING);
        }
        dueFault("w7", x, 0, 1, MISSING);
        dueFault("w0;;", x, 3, 1, MISSING);
        dueFault(";", x, 0, 1, MISSING);
    }

    /** "the position, from 0, of the first character of the first command that is not possible". */
    private static void positions() {
        PledgeTips x = with(1, 5);
        dueFault("w0;", x, 0, 2, INVALID);
        dueFault("x", x, 0, 1, MISSING);
        dueFault("h1;w0;", x, 3, 2, INVALID);
        dueFault("h1;g07;h012;w0;h1;", x, 12, 2, INVALID);
        dueFault("h1;g07;p0,0,5,0,0;x", x, 18, 1, MISSING);
        dueFault("p0,0,5,0,0;p0,0,5,0,1", x, 11, 1, MISSING);
        dueFault("p0,0,5,0,0;p0,0,5,0,1;", x, 11, 2, INVALID);
    }

    /** A fault at the last one of 80 characters, and commands that end with it. */
    private static void lastPosition() {
        PledgeTips x = with(1, 5);
        String most = "p0,0,1,0,0;p0,0,1,0,0;p0,0,1,0,0;p0,0,1,0,0;p0,0,1,0,0;p0,0,1,0,0;p0,0,1,0,000;";
        due("a text of 79", most.length(), 79);
        dueFault(most + "g", x, 79, 1, MISSING);
        dueFault(most + ";", x, 79, 1, MISSING);
        String less = most.substring(0, 66) + "p0,0,1,0,0;";
        due("a text of 77", less.length(), 77);
        dueFault(less + "w9;", x, 77, 2, INVALID);
        dueFault(less + "w99", x, 77, 1, MISSING);
        dueFault(less + "w6;", x, MISSING, MISSING, MISSING);
        due("15: it is full", x.type(';'), LIMIT);
    }

    /** Of several faults the first one is told, of whichever reason. */
    private static void firstFault() {
        PledgeTips x = with(1, 5);
        dueFault("w0;x;", x, 0, 2, INVALID);
        dueFault("x;w0;", x, 0, 1, MISSING);
        dueFault("g0;c0;", x, 0, 2, INVALID);
        dueFault("c0;g0;", x, 0, 2, IMPOSSIBLE);
        dueFault("h5;c0;g", x, 3, 2, IMPOSSIBLE);
    }

    /** "when those ahead of it are done". */
    private static void thoseAheadAreDone() {
        PledgeTips x = new PledgeTips();
        dueFault("p0,0,5,0,0;", x, 0, 2, INVALID);
        dueFault("g5;p0,0,5,0,0;", x, 3, 2, INVALID);
        dueFault("h9;p0,0,5,0,0;", x, 3, 2, INVALID);
        dueFault("g5;h4;p0,0,5,0,0;", x, 6, 2, IMPOSSIBLE);
        dueFault("g5;h9;p0,0,4,0,0;c0;", x, 17, 2, IMPOSSIBLE);
        dueFault("g5;h9;p0,0,5,0,0;c0;p0,0,1,0,0;", x, 20, 2, IMPOSSIBLE);
        dueFault("g5;h9;p0,0,5,0,0;c0;w0;", x, 20, 2, IMPOSSIBLE);
        dueFault("g5;h9;p0,0,5,0,0;w0;w0;", x, 20, 2, INVALID);
        dueFault("g5;h9;p0,0,5,0,0;w0;c0;", x, 20, 2, IMPOSSIBLE);
        due("17: none is done for good", x.count(0) + x.count(1) + x.count(8), 0);
        dueFault("g5;h9;p0,0,5,0,0;c0;", x, MISSING, MISSING, MISSING);
        due("18: all are done for good", x.count(10), 5);
    }

    /** "its cause is then the error code that the call returns for it". */
    private static void causes() {
        PledgeTips x = full();
        dueFault("g0;", x, 0, 2, INVALID);
        dueFault("g1;", x, 0, 2, LIMIT);
        dueFault("g999;", x, 0, 2, LIMIT);
        dueFault("h0;", x, 0, 2, LIMIT);
        dueFault("h999;", x, 0, 2, LIMIT);
        dueFault("w0;", x, 0, 2, IMPOSSIBLE);
        dueFault("w12;", x, 0, 2, INVALID);
        dueFault("c2;", x, 0, 2, IMPOSSIBLE);
        dueFault("c3;", x, 0, 2, IMPOSSIBLE);
        dueFault("c4;", x, 0, 2, INVALID);
        dueFault("w11;w11;", x, 4, 2, INVALID);
        dueFault("c0;c0;", x, 3, 2, IMPOSSIBLE);
        PledgeTips y = new PledgeTips();
        dueFault("w0;", y, 0, 2, INVALID);
        dueFault("c0;", y, 0, 2, INVALID);
    }

    private static void causesOfPledges() {
        PledgeTips x = full();
        dueFault("p8,0,1,0,0;", x, 0, 2, INVALID);
        dueFault("p0,4,1,0,0;", x, 0, 2, INVALID);
        dueFault("p0,0,0,0,0;", x, 0, 2, INVALID);
        dueFault("p0,0,1,5,0;", x, 0, 2, INVALID);
        dueFault("p0,0,1,0,1;", x, 0, 2, INVALID);
        dueFault("p0,0,1,1,0;", x, 0, 2, INVALID);
        dueFault("p0,0,1,2,0;", x, 0, 2, INVALID);
        dueFault("p0,0,1,2,12;", x, 0, 2, INVALID);
        dueFault("p0,0,1,3,0;", x, 0, 2, INVALID);
        dueFault("p0,0,1,3,8;", x, 0, 2, INVALID);
        dueFault("p0,0,1,4,0;", x, 0, 2, INVALID);
        dueFault("p0,0,1,4,4;", x, 0, 2, INVALID);
        dueFault("p0,3,1,0,0;", x, 0, 2, IMPOSSIBLE);
        dueFault("p0,0,999,0,0;", x, 0, 2, IMPOSSIBLE);
        dueFault("p0,0,1,0,0;", x, 0, 2, LIMIT);
        dueFault("w7;p0,0,1,0,0;p0,0,1,0,0;", x, 14, 2, LIMIT);
    }

    /** The numbers of a text reach the call in their order. */
    private static void valuesInTexts() {
        PledgeTips x = with(3, 50, 5, 5);
        retype(x, "p2,0,30,1,456;p1,2,017,4,001;");
        due("18: two commands", x.play(), 2);
        int[] first = {2, 0, 30, 1, 456};
        int[] second = {1, 2, 17, 4, 1};
        for (int what = 0; what <= 4; what++) {
            due("18: pledgeOf(0, " + what + ")", x.pledgeOf(0, what), first[what]);
            due("18: pledgeOf(1, " + what + ")", x.pledgeOf(1, what), second[what]);
        }
        retype(x, "w1;");
        x.play();
        due("18: it withdraws number 1", x.projectOf(0, 5) * 10 + x.projectOf(2, 5), 10);
    }

    /** "INVALID_ARGUMENT if what is out of range; NOT_FOUND if .. no fault .., for 2 if its reason is 1". */
    private static void whatOfFault() {
        PledgeTips x = new PledgeTips();
        String[] texts = {"", "g5;", "g", "w0;"};
        for (String text : texts) {
            retype(x, text);
            due("17: what -1 of " + text, x.fault(-1), INVALID);
            due("17: what 3 of " + text, x.fault(3), INVALID);
            due("17: what far off of " + text, x.fault(Integer.MAX_VALUE), INVALID);
        }
        dueFault("g5;", x, MISSING, MISSING, MISSING);
        dueFault("g", x, 0, 1, MISSING);
        dueFault("w0;", x, 0, 2, INVALID);
        dueFault("c0;", x, 0, 2, IMPOSSIBLE);
    }

    private static void faultChangesNothing() {
        PledgeTips x = with(1, 5);
        retype(x, "g9;p0,0,5,0,0;c0;h7;");
        for (int what = -1; what <= 3; what++) {
            x.fault(what);
        }
        due("17: no project more", x.count(0), 1);
        due("17: no person more", x.count(1), 1);
        due("17: no pledge made", x.count(8), 0);
        due("17: no money", x.count(10), 0);
        due("17: no state", x.count(11), 2);
        due("17: the text stays", x.count(12), 20);
        due("18: it can be played still", x.play(), 4);
        due("17: now there is a fault", x.fault(0), 3);
    }

    private static void fullTextPlayed() {
        PledgeTips x = with(1, 5);
        type(x, "p0,0,1,0,0;p0,0,1,0,0;p0,0,1,0,0;p0,0,1,0,0;p0,0,1,0,0;p0,0,1,0,0;p0,0,1,0,0;g8;");
        due("15: it is full", x.type(';'), LIMIT);
        due("17: without fault", x.fault(0), MISSING);
        due("18: eight commands", x.play(), 8);
        due("18: the last one is done", x.projectOf(1, 0), 8);
        due("18: the text stays", x.count(12), 80);
    }

    /** As many commands as go into one text: three characters each, 26 of them. */
    private static void manyCommands() {
        PledgeTips x = with(1, 1, 1);
        for (int i = 0; i < 12; i++) {
            x.pledge(0, i < 10 ? 0 : 1, 1, 0, 0);
        }
        String text = "w0;w1;w2;w3;w4;w5;w6;w7;w8;c0;c1;g2;g3;h0;h1;h2;h3;h4;h5;h6;";
        type(x, text);
        due("18: twenty commands", x.play(), 20);
        due("18: they are one change", x.count(11), 4);
        due("18: persons", x.count(1), 8);
        due("18: projects", x.count(0), 4);
        due("18: money", x.count(10), 3);
        due("18: withdrawn", x.count(9), 9);
        due("14: all undone at once", x.undo(), 3);
        due("14: as ahead of it", x.count(0) * 1000 + x.count(1) * 100 + x.count(2), 2112);
    }

    /** "They are one change, also if there are none." */
    private static void playOfNothing() {
        PledgeTips x = new PledgeTips();
        for (int states = 1; states <= 5; states++) {
            due("18: nothing is played", x.play(), 0);
            due("18: and is a change", x.count(11), Math.min(states, 4));
        }
        due("14: undo of nothing", x.undo(), 3);
        x = with(0, 5);
        for (int i = 0; i < 3; i++) {
            x.play();
        }
        x.play();
        for (int left = 3; left >= 0; left--) {
            due("14: undo", x.undo(), left);
        }
        due("18: it dropped the state ahead of the project", x.count(0), 1);
        due("14: the history is empty", x.undo(), IMPOSSIBLE);
    }

    /** "Does all commands of the text, which stays." */
    private static void playIsOneChange() {
        PledgeTips x = with(1, 9);
        type(x, "g5;p0,1,5,0,0;w0;h6;");
        due("18: four", x.play(), 4);
        due("18: one state more", x.count(11), 3);
        due("13: withdrawn by texts", x.count(9), 1);
        due("18: the text stays", x.count(12), 20);
        due("18: again, as it has no fault still", x.play(), 4);
        due("18: twice is two changes", x.count(11), 4);
        due("18: done twice", x.count(0) * 10 + x.count(1), 33);
        due("14: undo of the second time", x.undo(), 3);
        due("14: the first time stays", x.count(0) * 10 + x.count(1), 22);
        due("14: the text stays", x.count(12), 20);
    }

    /** "NOT_POSSIBLE if it has a fault". */
    private static void playOfFault() {
        PledgeTips x = with(1, 9);
        String[] texts = {"g", "g5;x", "g5;w0;", "c0;", "g5;h5;g5;g5;g5;", ";"};
        for (String text : texts) {
            retype(x, text);
            due("18: " + text, x.play(), IMPOSSIBLE);
            due("18: nothing is done of " + text, x.count(0) * 10 + x.count(1), 11);
            due("18: no state for " + text, x.count(11), 2);
            due("18: the text stays, " + text, x.count(12), text.length());
        }
    }
}
