/** "Terms", section 1: each sentence about a text that names a bound, on both sides of it. */
final class Terms1Test {
    private static final int BAD = Hotel.BAD, NO = Hotel.NO, FULL = Hotel.FULL, NONE = Hotel.NONE;
    private static final Check CHECK = new Check("Terms1Test");

    public static void main(String[] args) {
        textHas200LettersAtMost();
        textOf200LettersIsReadToItsEnd();
        itemsStandOneBehindTheOther();
        itemBeginsWithALetter();
        numberHasOneOrTwoFigures();
        numberHasNothingButFigures();
        numbersArePartedByAComma();
        semicolonIsBehindTheLastNumber();
        kindIs0To3();
        floorIs0To9();
        guestsAre6AtMost();
        guestsOfAWishAreToldAhead();
        guestsOfAWishAreUnlike();
        hourIs0To99();
        wishesAre9AtMost();
        bootsBeginsAt0To99();
        bootsBeginsAt0Without();
        lastOfSeveralBeginningsCounts();
        faultIsTheFirstLetterOfTheItem();
        faultIsOfTheFirstItem();
        laidIsATextOfAGuestAtLeast();
        laidIsATextWithoutFault();
        laidAtFirst();
        CHECK.end();
    }

    /** A text without fault is laid, if it tells a guest; one with a fault never is. */
    private static void fault(String text, int want) {
        BootsAtDawn boots = new BootsAtDawn();
        Hotel.put(boots, text);
        CHECK.due("fault of " + text, boots.fault(), want);
        int guests = (int) text.chars().filter(letter -> letter == 'g').count();
        CHECK.due("lay of " + text, boots.lay(), want == NONE && guests > 0 ? guests : NO);
    }

    private static void fine(String... texts) {
        for (String text : texts) {
            fault(text, NONE);
        }
    }

    /** "A TEXT is letters (200 at most)" */
    private static void textHas200LettersAtMost() {
        BootsAtDawn boots = new BootsAtDawn();
        CHECK.due("letters of no text", boots.count(9), 0);
        for (int i = 1; i <= 200; i++) {
            CHECK.due("letter " + i, boots.write('s'), i);
        }
        CHECK.due("letter 201", boots.write('s'), FULL);
        CHECK.due("letters of a full text", boots.count(9), 200);
        CHECK.due("a full text is wiped", boots.wipe(), 200);
        CHECK.due("letter 1 again", boots.write('s'), 1);
    }

    /** "A TEXT is letters (200 at most)" */
    private static void textOf200LettersIsReadToItsEnd() {
        String filled = "g0,0;" + "s1;".repeat(63);
        fault(filled + "s98765", 194);
        fault(filled + "s1;s1;", NONE);
        BootsAtDawn boots = Hotel.laid(filled + "s1;s9;");
        CHECK.due("letters of a full text", boots.count(9), 200);
        CHECK.due("the last item of a full text counts", boots.count(5), 9);
        fault(filled + "s1;s9", 197);
        fault(filled + "s12;s", 198);
        fault(filled + "s12;f", 198);
        fault(filled + "s12;;", 198);
        fault(filled + "s12;s1", 198);
        fault(filled + "s1;s1;" + "x", NONE);
    }

    /** "ITEMS one behind the other" */
    private static void itemsStandOneBehindTheOther() {
        fine("", "g0,0;g0,0;", "s1;g0,0;s2;f0;s3;");
        fault(" g0,0;", 0);
        fault("g0,0; g0,0;", 5);
        fault("g0,0;;g0,0;", 5);
        fault("g0,0;,g0,0;", 5);
        fault("g0,0,g0,0;", 0);
        fault("g0,0;g0,0; ", 10);
        fault("g0,0;g0,0;;", 10);
    }

    /** "each a letter, then numbers" */
    private static void itemBeginsWithALetter() {
        for (char letter = 32; letter <= 126; letter++) {
            boolean ofTwo = "gbanu".indexOf(letter) >= 0;
            boolean ofOne = "fs".indexOf(letter) >= 0;
            fault("g0,0;g0,0;" + letter + "0,1;", ofTwo ? NONE : 10);
            fault("g0,0;g0,0;" + letter + "0;", ofOne ? NONE : 10);
            fault("g0,0;g0,0;" + letter + ";", 10);
            fault("g0,0;g0,0;" + letter, 10);
        }
        fault("g0,0;0;", 5);
        fault("g0,0;0,0;", 5);
        fault("g0,0;ff0;", 5);
        fault("g0,0;gg0,0;", 5);
    }

    /** "numbers (one or two figures)" */
    private static void numberHasOneOrTwoFigures() {
        String[] items = {"g#,0;", "g1,#;", "b#,1;", "b1,#;", "a#,1;", "a1,#;", "f#;", "n#,5;", "n1,#;", "u#,5;", "u1,#;", "s#;"};
        for (String item : items) {
            fault("g0,0;g0,0;" + item.replace("#", ""), 10);
            fault("g0,0;g0,0;" + item.replace("#", "0"), NONE);
            fault("g0,0;g0,0;" + item.replace("#", "00"), NONE);
            fault("g0,0;g0,0;" + item.replace("#", "000"), 10);
            fault("g0,0;g0,0;" + item.replace("#", "-0"), 10);
            fault("g0,0;g0,0;" + item.replace("#", "+0"), 10);
            fault("g0,0;g0,0;" + item.replace("#", " 0"), 10);
            fault("g0,0;g0,0;" + item.replace("#", "0 "), 10);
        }
        CHECK.due("two figures", Hotel.laid("g0,0;s10;").count(5), 10);
        CHECK.due("two figures, the first 0", Hotel.laid("g0,0;s09;").count(5), 9);
        CHECK.due("two figures of a kind", Hotel.laid("g03,07;").guest(0, 0), 3);
        CHECK.due("two figures of a floor", Hotel.laid("g03,07;").guest(0, 1), 7);
        CHECK.due("two figures of a guest", Hotel.laid("g0,0;g0,0;b01,00;").wish(0, 1), 1);
    }

    /** "numbers (one or two figures)" */
    private static void numberHasNothingButFigures() {
        for (char sign = 32; sign <= 126; sign++) {
            boolean figure = sign >= '0' && sign <= '9';
            fault("g0,0;s" + sign + ";", figure ? NONE : 5);
            fault("g0,0;n0," + sign + ";", figure ? NONE : 5);
            if (sign != ';') {
                fault("g0,0;s1" + sign + ";", figure ? NONE : 5);
                fault("g0,0;n0,1" + sign + ";", figure ? NONE : 5);
            }
            if (figure) {
                CHECK.due("figure " + sign, Hotel.laid("g0,0;s" + sign + ";").count(5), sign - '0');
                CHECK.due("second figure " + sign, Hotel.laid("g0,0;s4" + sign + ";").count(5), 40 + sign - '0');
            }
        }
    }

    /** "parted by ," */
    private static void numbersArePartedByAComma() {
        String[] letters = {"g", "b", "a", "n", "u"};
        for (String letter : letters) {
            fault("g0,0;g0,0;" + letter + "0,1;", NONE);
            String[] partings = {"", ";", ",,", ".", " ", ", ", " ,", ":", ",;"};
            for (String parting : partings) {
                fault("g0,0;g0,0;" + letter + "0" + parting + "1;", 10);
            }
            fault("g0,0;g0,0;" + letter + ",0,1;", 10);
            fault("g0,0;g0,0;" + letter + "0,1,;", 10);
            fault("g0,0;g0,0;" + letter + "0,1,1;", 10);
        }
        fault("g0,0;f,0;", 5);
        fault("g0,0;f0,;", 5);
        fault("g0,0;f0,0;", 5);
        fault("g0,0;s0,;", 5);
        fault("g0,0;s0,0;", 5);
    }

    /** "and a ; behind the last one" */
    private static void semicolonIsBehindTheLastNumber() {
        String[] items = {"g0,0", "b0,1", "a0,1", "f0", "n0,1", "u0,1", "s0"};
        for (String item : items) {
            fault("g0,0;g0,0;" + item + ";", NONE);
            fault("g0,0;g0,0;" + item, 10);
            fault("g0,0;g0,0;" + item + "s1;", 10);
            fault("g0,0;g0,0;" + item + ":", 10);
            fault("g0,0;g0,0;" + item + " ;", 10);
            fault("g0,0;g0,0;" + item + ";;", 11 + item.length());
        }
    }

    /** "KIND K (0 PLAIN, 1 HEAVY, 2 LIGHT, 3 DEAF)" */
    private static void kindIs0To3() {
        for (int kind = 0; kind < 100; kind++) {
            fault("g" + kind + ",0;", kind <= 3 ? NONE : 0);
        }
        for (int kind = 0; kind <= 3; kind++) {
            CHECK.due("kind", Hotel.laid("g" + kind + ",0;").guest(0, 0), kind);
        }
    }

    /** "on FLOOR F (0 to 9)" */
    private static void floorIs0To9() {
        for (int floor = 0; floor < 100; floor++) {
            fault("g0," + floor + ";", floor <= 9 ? NONE : 0);
        }
        for (int floor = 0; floor <= 9; floor++) {
            CHECK.due("floor", Hotel.laid("g0," + floor + ";").guest(0, 1), floor);
        }
    }

    /** "6 at most, 0, 1, .." */
    private static void guestsAre6AtMost() {
        fine(Hotel.guests(1), Hotel.guests(5), Hotel.guests(6));
        fault(Hotel.guests(7), 30);
        fault(Hotel.guests(8), 30);
        fault(Hotel.guests(6) + "f5;s3;g0,0;", 36);
        BootsAtDawn boots = Hotel.laid("g0,5;g0,4;g0,3;g0,2;g0,1;g0,9;");
        int[] floors = {5, 4, 3, 2, 1, 9};
        for (int g = 0; g < 6; g++) {
            CHECK.due("guest " + g, boots.guest(g, 1), floors[g]);
        }
        CHECK.due("no guest 6", boots.guest(6, 1), BAD);
    }

    /** "of each A, B told ahead" */
    private static void guestsOfAWishAreToldAhead() {
        for (int told = 1; told <= 6; told++) {
            String text = Hotel.guests(told);
            String[] items = {"f#;", "n#,9;", "u#,9;"};
            for (String item : items) {
                fault(text + item.replace("#", "" + (told - 1)), NONE);
                fault(text + item.replace("#", "" + told), text.length());
                fault(text + item.replace("#", "99"), text.length());
            }
            String[] itemsOfTwo = {"b#,0;", "a#,0;", "b0,#;", "a0,#;"};
            for (String item : itemsOfTwo) {
                fault(text + item.replace("#", "" + (told - 1)), told > 1 ? NONE : text.length());
                fault(text + item.replace("#", "" + told), text.length());
                fault(text + item.replace("#", "99"), text.length());
            }
        }
        String[] early = {"b0,1;", "b1,0;", "a0,1;", "a1,0;", "f1;", "n1,0;", "u1,0;"};
        for (String item : early) {
            fault("g0,0;" + item + "g0,0;", 5);
            fault(item + "g0,0;g0,0;", 0);
            fault("g0,0;g0,0;" + item, NONE);
        }
    }

    /** "A before B (unlike)", "A just after B (unlike)" */
    private static void guestsOfAWishAreUnlike() {
        for (int a = 0; a < 6; a++) {
            for (int b = 0; b < 6; b++) {
                fault(Hotel.guests(6) + "b" + a + "," + b + ";", a == b ? 30 : NONE);
                fault(Hotel.guests(6) + "a" + a + "," + b + ";", a == b ? 30 : NONE);
                fine(Hotel.guests(6) + "n" + a + "," + b + ";", Hotel.guests(6) + "u" + a + "," + b + ";");
            }
        }
        fault("g0,0;b0,00;", 5);
        fault("g0,0;a00,0;", 5);
    }

    /** "A not sooner than H (0 to 99)", "A not later than H (0 to 99)" */
    private static void hourIs0To99() {
        String[] letters = {"n", "u"};
        for (String letter : letters) {
            int[] hours = {0, 1, 9, 10, 98, 99};
            for (int hour : hours) {
                BootsAtDawn boots = Hotel.laid("g0,0;" + letter + "0," + hour + ";");
                CHECK.due("hour of " + letter, boots.wish(0, 2), hour);
            }
            fault("g0,0;" + letter + "0,100;", 5);
            fault("g0,0;" + letter + "0,-1;", 5);
        }
    }

    /** "9 WISHES at most, 0, 1, .." */
    private static void wishesAre9AtMost() {
        String[] wishes = {"b0,1;", "a0,1;", "f0;", "n0,1;", "u0,1;"};
        for (String wish : wishes) {
            String eight = "g0,0;g0,0;" + "f1;".repeat(8);
            fine(eight, eight + wish);
            fault(eight + wish + "f1;", 34 + wish.length());
            fault(eight + "f1;" + wish, 37);
            fault("g0,0;g0,0;" + wish.repeat(10), 10 + 9 * wish.length());
            fine("g0,0;g0,0;" + wish.repeat(9) + "s5;g3,9;");
            BootsAtDawn boots = Hotel.laid(eight + wish);
            CHECK.due("wish 8 of " + wish, boots.wish(8, 0), "bafnu".indexOf(wish.charAt(0)));
            CHECK.due("no wish 9 of " + wish, boots.wish(9, 0), BAD);
        }
        CHECK.due("a text of no wishes", Hotel.laid("g0,0;").count(2), 0);
    }

    /** "the boots begins at S (0 to 99" */
    private static void bootsBeginsAt0To99() {
        int[] starts = {0, 1, 9, 10, 98, 99};
        for (int start : starts) {
            BootsAtDawn boots = Hotel.laid("g0,0;s" + start + ";");
            CHECK.due("S", boots.count(5), start);
            CHECK.due("the round begins at S", boots.soonest(0), start + 1);
        }
        fault("g0,0;s100;", 5);
        fault("g0,0;s-1;", 5);
    }

    /** "0 without" */
    private static void bootsBeginsAt0Without() {
        CHECK.due("no S", Hotel.laid("g0,4;").count(5), 0);
        CHECK.due("no S: the round begins at 0", Hotel.laid("g0,4;").soonest(0), 5);
        BootsAtDawn boots = Hotel.laid("g0,0;s7;");
        Hotel.put(boots, "g0,0;");
        boots.lay();
        CHECK.due("no S behind a slate with one", boots.count(5), 0);
    }

    /** "of several such the last one counts" */
    private static void lastOfSeveralBeginningsCounts() {
        CHECK.due("the last of two", Hotel.laid("s9;g0,0;s4;").count(5), 4);
        CHECK.due("the last of two, 0", Hotel.laid("s9;s0;g0,0;").count(5), 0);
        CHECK.due("the last of three", Hotel.laid("g0,0;s1;s99;s50;").count(5), 50);
        CHECK.due("ahead of all", Hotel.laid("s8;g0,0;").count(5), 8);
    }

    /** "FAULT: the place of the first letter of the first ITEM that is not so" */
    private static void faultIsTheFirstLetterOfTheItem() {
        fault("g0,0x", 0);
        fault("g0,0;f0x", 5);
        fault("g0,0;n0,9x;", 5);
        fault("g0,0;n0,99", 5);
        fault("g0,0;n0,99;x", 11);
        fault("g00,00;b00,00;", 7);
        BootsAtDawn boots = new BootsAtDawn();
        int[] want = {0, 0, 0, 0, NONE, 5, 5, NONE};
        String text = "g0,0;f0;";
        CHECK.due("fault of nothing", boots.fault(), NONE);
        for (int i = 0; i < want.length; i++) {
            boots.write(text.charAt(i));
            CHECK.due("fault of " + text.substring(0, i + 1), boots.fault(), want[i]);
        }
        CHECK.due("fault asked again", boots.fault(), NONE);
    }

    /** "FAULT: the place of the first letter of the first ITEM that is not so" */
    private static void faultIsOfTheFirstItem() {
        fault("x;y;", 0);
        fault("g0,0;x;y;", 5);
        fault("g0,0;g4,0;b0,1;", 5);
        fault("g0,0;f1;f2;", 5);
        fault("g0,0;f0;f1;f2;", 8);
        fault("g0,0;b0,1;g0,0;b0,1;", 5);
    }

    /** "LAID is a TEXT without FAULT, of a GUEST at least (NO else" */
    private static void laidIsATextOfAGuestAtLeast() {
        String[] without = {"", "s0;", "s5;s6;"};
        for (String text : without) {
            fault(text, NONE);
            BootsAtDawn boots = new BootsAtDawn();
            Hotel.put(boots, text);
            CHECK.due("lay of " + text, boots.lay(), NO);
            CHECK.due("guests as before", boots.count(0), 5);
            CHECK.due("S as before", boots.count(5), 2);
        }
        for (int many = 1; many <= 6; many++) {
            CHECK.due("guests laid", Hotel.laid("s5;" + Hotel.guests(many)).count(0), many);
        }
    }

    /** "LAID is a TEXT without FAULT" */
    private static void laidIsATextWithoutFault() {
        String[] wrong = {"g0,0;x", "xg0,0;", "g0,0", "g4,0;", "g0,0;f1;", Hotel.guests(7)};
        for (String text : wrong) {
            BootsAtDawn boots = new BootsAtDawn();
            Hotel.put(boots, text);
            CHECK.due("lay of " + text, boots.lay(), NO);
            CHECK.due("guests as before", boots.count(0), 5);
            CHECK.due("wishes as before", boots.count(2), 6);
            CHECK.due("letters as before", boots.count(9), text.length());
            CHECK.due("floor as before", boots.guest(3, 1), 5);
        }
    }

    /** "at first g0,1;g1,3;g0,2;g2,5;g3,3;b0,1;a2,0;b3,4;n1,12;u3,30;b1,3;s2;" */
    private static void laidAtFirst() {
        BootsAtDawn told = Hotel.laid(Hotel.FIRST_TEXT);
        told.wipe();
        CHECK.holds("a new object is as its text is laid", Hotel.lookBehind(new BootsAtDawn()).equals(Hotel.lookBehind(told)));
    }
}
