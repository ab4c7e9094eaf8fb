/** Sentences that bound the tape and the texts: promises 28 to 32. */
final class TextEdges {
    private static final int MIN = Integer.MIN_VALUE, MAX = Integer.MAX_VALUE;
    // Where a text has no fault.
    private static final int RIGHT = -1;
    private final Edges e;

    TextEdges(Edges e) {
        this.e = e;
    }

    void all() {
        feed();
        trim();
        text();
        tapeIsUsedUp();
        keys();
        levels();
        pieces();
        names();
        words();
        blanks();
        faults();
        depth();
        tooSoon();
        values();
        textTold();
        why();
    }

    /** Tells texts, each with the place of its fault; each on its own, as none stays told. */
    private static void tells(Run x, Object... textsAndPlaces) {
        x.does("keep()");
        for (int i = 0; i < textsAndPlaces.length; i += 2) {
            int place = (Integer) textsAndPlaces[i + 1];
            x.does("'" + textsAndPlaces[i] + "' = " + (place == RIGHT ? 0 : -100 - place) + "; "
                + "count(6) = " + (place == RIGHT ? 1 : 0) + "; back()");
        }
    }

    /** What texts of come give, with awake 7, cares 3, load 2, patience 5; held within 0 .. 100. */
    private static void gives(Run x, Object... textsAndValues) {
        x.does("house(7, 3); patience(5); door(0, 1); wire(0, 0, 0); wire(0, 1, 0); keep()");
        for (int i = 0; i < textsAndValues.length; i += 2) {
            x.does("'come " + textsAndValues[i] + "' = 0; houseTold(0, 4) = " + textsAndValues[i + 1] + "; back()");
        }
    }

    private void feed() {
        String told = "Twelve bytes come to THE TAPE, the highest of each number first: how many it has.";
        e.on(28, told).does("feed(0, 0, 0) = 12; feed(-1, MIN, MAX) = 24; count(8) = 24; trim(1) = 1; feed(1, 2, 3) = 13; count(8) = 13");
        // come a*12+34, byte by byte, then the same with two bytes of a number in each other's place.
        e.on(28, told).does("feed(" + 0x636f6d65 + ", " + 0x20612a31 + ", " + 0x322b3334 + ") = 12; text() = 0; house(2, 0); "
            + "houseTold(0, 4) = 58");
        e.on(28, told).does("feed(" + 0x6f636d65 + ", " + 0x20612a31 + ", " + 0x322b3334 + ") = 12; text() = -100");
        e.on(28, told).does("feed(" + 0x636f6d65 + ", " + 0x20FF2020 + ", " + 0x20202020 + ") = 12; text() = -105");
        String most = "from THE TAPE (96 bytes at most;";
        e.on(28, most).times(7, "feed(-1, -1, -1)").does("feed(1, 1, 1) = 96; count(8) = 96");
        tells(e.on(28, most), "come " + "a+".repeat(45) + "a", RIGHT, " ".repeat(48) + "come" + " ".repeat(43) + "a", RIGHT,
            "come " + "a+".repeat(45) + " ", 96);
        String full = "FULL: it would have more than 96.";
        e.on(28, full).times(8, "feed(32, 32, 32)").does("feed(0, 0, 0) ! FULL; trim(95); feed(0, 0, 0) ! FULL; trim(85); "
            + "feed(0, 0, 0) ! FULL; trim(84); feed(0, 0, 0) = 96; feed(MIN, MAX, -1) ! FULL");
    }

    private void trim() {
        e.on(29, "THE TAPE keeps its first n bytes: n.").does("trim(0) = 0; "
            + "feed(" + 0x6d617920 + ", " + 0x7078203d + ", " + 0x203d2020 + "); trim(12) = 12; trim(5) = 5; count(8) = 5; text() = 0")
            .does("textTold(0, 0) = 2; feed(1, 1, 1) = 12; trim(0) = 0; count(8) = 0");
        e.on(29, "BAD.").does("trim(1) ! BAD; trim(-1) ! BAD; feed(1, 1, 1); trim(13) ! BAD; trim(96) ! BAD; trim(-1) ! BAD; "
            + "trim(11) = 11; trim(12) ! BAD; trim(11) = 11");
        e.on(29, "BAD.").inTown().each("trim(#) ! BAD", -1, 9, 12, MIN, MAX, Due.NONE);
    }

    private void text() {
        Run most = e.on(30, "TEXTS, 14 at most, numbered from 0,").does("house(50, 50)");
        for (int t = 0; t < 14; t++) {
            most.does("'come " + t + "' = " + t);
        }
        most.does("houseTold(0, 4) = 13; 'come 99' ! FULL; 'may 0' ! FULL; count(6) = 14; houseTold(0, 4) = 13; why(2) = NONE; "
            + "textTold(13, 1) = 1; textTold(14, 1) ! BAD");
        e.on(30, "THE TAPE is a TEXT: its number.").does("'come a' = 0; 'gain w' = 1; 'may p' = 2; 'come a' = 3; count(6) = 4");
        e.on(30, "-100 less the place of its FAULT; FULL.").does("'' ! -100; 'x' ! -100; 'come b' ! -105; 'come a+' ! -107; count(6) = 0");
        e.on(30, "-100 less the place of its FAULT; FULL.").times(14, "'come 1'").does("'come b' ! -105; '' ! -100; 'come a' ! FULL");
        e.on(30, "-100 less the place of its FAULT; FULL.").inTown().does("text() ! -108; count(8) = 0; text() ! -100");
    }

    private void tapeIsUsedUp() {
        String used = "an act that reads it uses it up, whatever it answers):";
        e.on(30, used).does("'come a' = 0; count(8) = 0; text() = -100; 'come +' = -105; count(8) = 0; text() = -100; text() = -100; "
            + "count(6) = 1; feed(1, 1, 1) = 12");
        e.on(30, used).times(14, "'may 1'").does("'come a' = FULL; count(8) = 0; text() = -100; 'come +' = -105; count(8) = 0");
        // Nothing of a text with a fault is left in the next one.
        for (String spoilt : new String[] {"come !", "come !!!!!!!!", "come ((((((((a+", "come a+c*(", "come 5-", "may p<q<",
            "come (!(!"}) {
            e.on(30, used).does("house(7, 3); '" + spoilt + "'; 'come 5' = 0; houseTold(0, 4) = 5; '" + spoilt + "'; "
                + "'come !!!!!!!!((((((((a)))))))))' = -130; '" + spoilt + "'; 'come !!!!!!!!!a' = -113; '" + spoilt + "'; "
                + "'come a<c' = 1; textTold(1, 1) = 2");
        }
        String refused = "and changes nothing (but the tape and the numbers that wait, where told).";
        e.on(30, refused).inTown().does("text() ! -108; 'come 5)' ! -106; 'gain l' ! -105; count(6) = 2; why(0) = 0; why(1) = NONE; "
            + "why(2) = 1");
    }

    private void keys() {
        tells(e.on(30, "KEY E."), "come a", RIGHT, "come", 4, "a", 0, "a come", 0, "5 come", 0, "(come a)", 0, "! may p", 0,
            "come come a", 5, "come a come", 7, "come a come c", 7, "come a.", 6);
        tells(e.on(30, "KEY: come | gain | may."), "come 1", RIGHT, "gain 1", RIGHT, "may 1", RIGHT, "com 1", 0, "comes 1", 0,
            "gai 1", 0, "gains 1", 0, "ma 1", 0, "mays 1", 0,
            "c 1", 0, "COME 1", 0, "Come 1", 0, "comE 1", 0, "emoc 1", 0, "cone 1", 0, "gein 1", 0, "nay 1", 0, "law 1", 0);
    }

    private void levels() {
        gives(e.on(30, "E, the loosest first:"), "1|0&0", 1, "0&0|1", 1, "0&0=0", 0, "0=0&0", 0, "1=1+1", 0, "5+4>8", 1, "1|1=0", 1,
            "2+3*4", 14, "2*3+4", 10, "9-8/4", 7, "!0+5", 6, "!0*5", 5, "!1|1", 1, "!0=0", 0, "1|0=1+0*0&0", 1);
        gives(e.on(30, "OR: AND { | AND };"), "9", 9, "0|0", 0, "0|9", 1, "9|0", 1, "9|9", 1, "0|0|0|9", 1, "9|0|0|0", 1, "0|0|0|0", 0);
        tells(e.on(30, "OR: AND { | AND };"), "come a||c", 7, "come |a", 5, "come a|", 7);
        gives(e.on(30, "AND: TEST { & TEST };"), "9&9", 1, "9&0", 0, "0&9", 0, "0&0", 0, "1&2&3&4", 1, "1&2&0&4", 0, "0&2&3&4", 0,
            "1&2&3&0", 0);
        tells(e.on(30, "AND: TEST { & TEST };"), "come a&&c", 7, "come &a", 5, "come a&", 7);
        String test = "TEST: SUM [ (< | = | >) SUM ];";
        gives(e.on(30, test), "3<4", 1, "4<4", 0, "5<4", 0, "3=4", 0, "4=4", 1, "5=4", 0, "3>4", 0, "4>4", 0, "5>4", 1, "(3<4)<5", 1,
            "5>(3>4)", 1, "0-1<0", 1, "0>0-1", 1);
        tells(e.on(30, test), "come a<c<l", 8, "come a=c=l", 8, "come a>c<l", 8, "come a+1<c+1=l", 12, "come a<c&c<l", RIGHT,
            "come a<c|c<l", RIGHT, "come a<c&c<l<p", 12, "come (a<c<l)", 9, "come a<=c", 7, "come a<>c", 7, "come <a", 5, "come a=", 7,
            "come (a<c)<(c<l)", RIGHT, "come (a<c)=l>p", 12);
        String sum = "SUM: TERM { (+ | -) TERM };";
        gives(e.on(30, sum), "9-4-3", 2, "9-4+3", 8, "9-(4-3)", 8, "1+2+3+4", 10, "a-c", 4, "c-a+50", 46);
        tells(e.on(30, sum), "come -1", 5, "come +1", 5, "come a--1", 7, "come a+-1", 7, "come a-", 7);
        String term = "TERM: PIECE { (* | /) PIECE };";
        gives(e.on(30, term), "80/4/5", 4, "80/(4/2)", 40, "9/4*4", 8, "4*9/4", 9, "2*3*4", 24, "7/4*9", 9, "1/2", 0, "99/100", 0);
        tells(e.on(30, term), "come *1", 5, "come /1", 5, "come a**1", 7, "come a//1", 7, "come a*", 7, "come a%2", 6);
    }

    private void pieces() {
        String piece = "PIECE: NUMBER (1 to 4 digits) | NAME | ! PIECE | ( E ).";
        gives(e.on(30, piece), "0", 0, "5", 5, "0000", 0, "0005", 5, "42", 42, "100", 100, "9999/9999", 1, "9999-9900", 99, "a", 7,
            "!a", 0, "!!a", 1, "!(a)", 0, "(a)", 7, "((a))", 7, "(a+c)*l", 20, "!(0)*9", 9, "!!!0", 1);
        tells(e.on(30, piece), "come 1", RIGHT, "come 12", RIGHT, "come 123", RIGHT, "come 1234", RIGHT, "come 12345", 5,
            "come 00000", 5, "come 0000", RIGHT, "come ()", 6, "come !)", 6, "come a!", 6, "come (a)(c)", 8, "come a(c)", 6, "come !+1", 6,
            "come (!a)", RIGHT, "come !(a", 8, "come 1(2)", 6);
    }

    private void names() {
        String each = "NAMES, each one letter:";
        for (String key : new String[] {"come", "gain", "may"}) {
            String names = key.equals("come") ? "aclp" : key.equals("gain") ? "wm" : "pqo";
            Run x = e.on(30, each);
            for (char c = 'a'; c <= 'z'; c++) {
                tells(x, key + " " + c, names.indexOf(c) >= 0 ? RIGHT : key.length() + 1);
            }
        }
        tells(e.on(30, each), "come aa", 5, "come ac", 5, "gain ww", 5, "may pq", 4, "may opq", 4, "come a c", 7, "come A", 5,
            "come awake", 5);
        gives(e.on(3, "of come a AWAKE, c CARES, l LOAD, p PATIENCE;"), "a", 7, "c", 3, "l", 2, "p", 5);
        e.on(3, "of come a AWAKE, c CARES, l LOAD, p PATIENCE;").does("house(0, 100); house(100, 0); 'come a'; houseTold(0, 4) = 0; "
            + "houseTold(1, 4) = 100; 'come c'; houseTold(0, 4) = 100; houseTold(1, 4) = 0")
            .does("'come l*10+p'; houseTold(0, 4) = 3; door(0, 1); wire(0, 0, 0); wire(0, 1, 0); houseTold(0, 4) = 23; "
                + "houseTold(1, 4) = 3; patience(24); houseTold(0, 4) = 44; patience(0); houseTold(0, 4) = 20");
        e.on(16, "of gain w WORTH, m MISSED;").does("house(0, 0); house(99, 100); door(0, 0); door(0, 999); wire(1, 0, 1); wire(1, 1, 1); "
            + "thief(2, 1); thief(0, 1); 'gain w'; at(0, 0, 1) = 0; at(0, 1, 1) = 999; 'gain m'; at(0, 0, 1) = 10000; at(0, 1, 1) = 2601; "
            + "at(1, 1, 1) = 1");
        String may = "of may p, q the HOUSES (p the lesser), o the DOOR's own.";
        e.on(9, may).does("deal(10); door(4, 1); 'may p=0&q=9&o=4'; wire(0, 0, 0); wire(0, 1, 9); doorTold(0, 5) = 1; wire(0, 0, 9); "
            + "wire(0, 1, 0); doorTold(0, 5) = 1; 'may p>q'; doorTold(0, 5) = 0; 'may p'; doorTold(0, 5) = 0; 'may q'; doorTold(0, 5) = 1")
            .does("'may p<o&o<q'; doorTold(0, 5) = 1; wire(0, 0, 3); doorTold(0, 5) = 0; door(2, 1); wire(1, 0, 3); wire(1, 1, 1); "
                + "doorTold(1, 5) = 1");
        e.on(21, may).does("deal(4); door(3, 1); 'may p+q=o'; pair(0) = 102; 'may p=1&q=o'; pair(0) = NONE; 'may q=2&p=0&o=3'; "
            + "pair(0) = 2");
    }

    private void words() {
        String row = "A word is a row of letters a .. z, or of digits, as long as it goes;";
        tells(e.on(30, row), "comea", 0, "come acl", 5, "come 123456", 5, "come 1234a", 9, "come a1", 6, "come a12345", 6, "come zz", 5,
            "come 0", RIGHT, "come 9", RIGHT, "comea c", 0, "may p+qq", 6, "may p+q1", 7, "may 1+99999", 6, "come a+come", 7);
        String other = "any other byte is a sign by itself.";
        for (int from = 0; from < 256; from += 64) {
            Run x = e.on(30, other);
            for (int b = from; b < from + 64; b++) {
                if (b != '\'') {
                    tells(x, "come a" + (char) b + "1", placeWith(b));
                }
            }
        }
        tells(e.on(30, other), "come a<=1", 7, "come a==1", 7, "come !=1", 6, "come a`", 6, "come a{", 6, "come a:1", 6, "come `", 5,
            "come {", 5, "come (@)", 6, "come [a]", 5, "come a\0", 6, "come \377", 5, "come \341", 5, "\343ome a", 0);
    }

    /** The place of the fault of a text with that byte between the name a and the number 1. */
    private static int placeWith(int b) {
        if (b >= 'a' && b <= 'z') {
            return 5;
        }
        return b == ' ' ? 7 : b != 0 && "+-*/<=>&|".indexOf(b) >= 0 ? RIGHT : 6;
    }

    private void blanks() {
        String may = "Between words and signs, and at the ends, there may be blanks (byte 32);";
        tells(e.on(30, may), "come(a)", RIGHT, "come!a", RIGHT, "  come  (  a  +  !  1  )  ", RIGHT, "come a+1", RIGHT,
            "come a + 1", RIGHT, " come a", RIGHT, "come a ", RIGHT, "come  a", RIGHT, "   ", 3,
            "come\ta", 4, "come\n(a)", 4, "come \ta", 5, "come a\r", 6, "come\0(a)", 4, "come\240(a)", 4, "\tcome a", 0, "come a_1", 6,
                "co me a", 0, "come 1 2", 7, "come ! ! a", RIGHT, "come a < = 1", 9);
        String needs = "a word right behind another one needs one.";
        tells(e.on(30, needs), "come5", 4, "come 5", RIGHT, "comea", 0, "may1", 3, "gain9999", 4, "come(5)", RIGHT, "come a+5", RIGHT,
            "come(a)", RIGHT, "come!5", RIGHT, "come5 a", 4, "come12345", 4);
    }

    private void faults() {
        String first = "FAULT: the first byte of the first word or sign with which no TEXT goes on";
        tells(e.on(30, first), "come a) )", 6, "come ) (", 5, "come a xyz +", 7, "come   xyz", 7, "come xyz", 5, "come a + xyz", 9,
            "come 12345 x", 5, "xyz 12345", 0, "come a+*)", 7, "come (a+c", 9, "come a c l", 7, "   xyz", 3, "come (a))", 8,
            "come a b", 7, "come b", 5);
        tells(e.on(30, "(a word that needs a blank ahead of it,"), "come5", 4, "come5+", 4, "come5)", 4, "gain0", 4, "may7", 3,
            " may7", 4, "come1234", 4);
        tells(e.on(30, "a NUMBER of more than 4 digits,"), "come 9999", RIGHT, "come 10000", 5, "come a+10000", 7, "come 0000", RIGHT,
            "come 00001", 5, "come 1234567890", 5, "come (99999)", 6, "come !99999", 6, "come a+9999", RIGHT);
    }

    private static String nested(int braces, String inside) {
        return "(".repeat(braces) + inside + ")".repeat(braces);
    }

    private void depth() {
        String ninth = "the ninth ( that would be open within others,";
        tells(e.on(30, ninth), "come " + nested(8, "a"), RIGHT, "come " + nested(9, "a"), 13, "come " + "(".repeat(9), 13,
            "come " + "(".repeat(8), 13, "come " + "( ".repeat(9), 21, "come a+" + nested(9, "a"), 15,
            "come " + nested(7, "(a)+(c)"), RIGHT, "come " + nested(7, "(a)+((c))"), 17, "come " + nested(8, "a") + "+" + nested(8,
                "c"), RIGHT, "come " + nested(8, "a") + "+" + nested(9, "c"), 31, "come (a)" + "+(a)".repeat(20), RIGHT);
        gives(e.on(30, ninth), nested(8, "a"), 7, nested(8, "a") + "*" + nested(8, "c"), 21);
        String not = "the ninth ! likewise, each by itself);";
        tells(e.on(30, not), "come !!!!!!!!a", RIGHT, "come !!!!!!!!!a", 13, "come !!!!!!!!!", 13, "come !!!!!!!!", 13,
            "come " + "! ".repeat(9) + "a", 21, "come a+!!!!!!!!!c", 15, "come !!!!!!!!a+!!!!!!!!c", RIGHT,
            "come !!!!!!!!a+!!!!!!!!!c", 23, "come !a" + "+!a".repeat(20), RIGHT,
            "come " + "!(".repeat(8) + "a" + ")".repeat(8), RIGHT, "come " + "!(".repeat(8) + "!a", 21,
                "come " + "!(".repeat(8) + "(a", 21, "come !!!!!!!!" + nested(8, "a"), RIGHT, "come " + nested(8, "!!!!!!!!a"), RIGHT);
        tells(e.on(30, not), "come " + nested(8, "!!!!!!!!!a"), 21, "come !!!!!!!!" + nested(9, "a"), 21, "come !!!!(!!!!a)", RIGHT,
            "come !!!!(!!!!!a)", 14, "come !!!!!!!!(a)*!!!!!!!!(c)", RIGHT, "come !!!!!!!(!a+!c)", RIGHT, "come !!!!!!!(!a+!!c)", 17,
            "come !!!!!!!!(a)+!", 18);
        gives(e.on(30, not), "!!!!!!!!a", 1, "!!!!!!!!0", 0, "!!!!!!!a", 0, "!(!(!(!(!(!(!(!(0))))))))", 0, "9*!!!!!!!!a", 9);
    }

    private void tooSoon() {
        String end = "the end (the place behind the last byte), if it comes too soon.";
        e.on(30, end).does("text() = -100; trim(0); text() = -100");
        tells(e.on(30, end), "", 0, " ", 1, "come", 4, "come ", 5, "come   ", 7, "gain", 4, "may", 3, "come a+", 7, "come a+  ", 9,
            "come (", 6, "come (a", 7, "come (a ", 8, "come !", 6, "come ((a)", 9, "come a|", 7, "come a<c&", 9);
        tells(e.on(30, end), " ".repeat(96), 96, "come" + " ".repeat(92), 96, "come " + "a+".repeat(45) + " ", 96,
            "come (" + "a+".repeat(44) + "a ", 96, "come " + "a+".repeat(45) + "+", 95);
    }

    private void values() {
        gives(e.on(30, "Ints wrap;"), "8192*8192*32<0", 1, "8192*8192*32-1>0", 1, "0-8192*8192*32<0", 1, "8192*8192*64=0", 1,
            "(8192*8192*32)/(0-1)<0", 1, "8192*8192*31>0", 1, "9999*9999*22<0", 1, "9999*9999*21>0", 1,
            "8192*8192*32=0-8192*8192*32", 1, "1-(8192*8192*32)<0", 1, "8192*8192*64+9", 9);
        gives(e.on(30, "/ is 0 by 0;"), "50+7/0", 50, "50+0/0", 50, "50+(0-7)/0", 50, "7/(1-1)", 0, "9-1/(a-a)", 9, "8/0*9+1", 1,
            "8/(0/5)+2", 2, "50+8192*8192*32/0", 50, "50+0/7", 50);
        gives(e.on(30, "tests, & | ! give 1 or 0"), "10+(3<5)", 11, "10+(5<3)", 10, "10+(5>3)", 11, "10+(3>5)", 10, "10+(9=9)", 11,
            "10+(9=8)", 10, "10+(5&7)", 11, "10+(5&0)", 10, "10+(5|7)", 11, "10+(0|0)", 10, "10+!5", 10, "10+!0", 11, "10+!!5", 11);
        gives(e.on(30, "(what is not 0 is true; both sides are worked out)."), "(0-1)&(0-2)", 1, "(0-1)|0", 1, "!(0-1)", 0, "0|(0-9)", 1,
            "8192*8192*64&1", 0, "8192*8192*32&1", 1, "!(8192*8192*64)", 1, "1|1/0", 1, "0&1/0", 0, "0|1/0", 0, "2&2", 1, "1&2", 1);
    }

    private void textTold() {
        e.on(31, "Of a TEXT: what 0 KEY (0 come, 1 gain, 2 may), 1 how many NUMBERS and NAMES it has.")
            .does("'may p' = 0; 'come a+a*a' = 1; 'gain 1' = 2; textTold(0, 0) = 2; textTold(0, 1) = 1; textTold(1, 0) = 0; "
                + "textTold(1, 1) = 3; textTold(2, 0) = 1; textTold(2, 1) = 1")
            .does("'come " + "a+".repeat(45) + "a' = 3; textTold(3, 1) = 46; 'may !(((p)+0012))<!!!q&o' = 4; textTold(4, 1) = 4; "
                + "textTold(4, 0) = 2; 'come !!!!!!!!((((((((a))))))))' = 5; textTold(5, 1) = 1");
        e.on(31, "BAD.").inTown().each("textTold(#, 0) ! BAD", -1, 2, 14, MIN, MAX, Due.NONE).each("textTold(0, #) ! BAD", -1, 2, MIN, MAX);
        e.on(31, "BAD.").does("textTold(0, 0) ! BAD; 'come b'; textTold(0, 0) ! BAD; 'come a'; textTold(0, 1) = 1; textTold(1, 0) ! BAD");
    }

    private void why() {
        e.on(32, "The TEXT that counts for a KEY.").does("'gain 1' = 0; 'may 1' = 1; 'come 1' = 2; why(0) = 2; why(1) = 0; why(2) = 1; "
            + "'may 2' = 3; why(0) = 2; why(1) = 0; why(2) = 3");
        e.on(32, "BAD; NONE.").each("why(#) ! NONE", 0, 1, 2).each("why(#) ! BAD", -1, 3, MIN, MAX, Due.NONE)
            .does("'come a+'; why(0) ! NONE; 'come a'; why(0) = 0; why(1) ! NONE; why(2) ! NONE");
        e.on(32, "BAD; NONE.").inTown().each("why(#) ! BAD", -1, 3, MIN, MAX);
        String last = "Of a KEY that TEXT counts that was told last.";
        e.on(32, last).does("house(9, 9); 'come 10' = 0; houseTold(0, 4) = 10; 'come 20' = 1; houseTold(0, 4) = 20; why(0) = 1; "
            + "'gain 5' = 2; 'may 0' = 3; houseTold(0, 4) = 20; why(0) = 1; 'come 30+' = -108; houseTold(0, 4) = 20; 'come 10' = 4; "
            + "houseTold(0, 4) = 10; why(0) = 4");
        e.on(32, last).does("deal(3); door(0, 10); thief(0, 1); 'gain 1' = 0; 'gain 2' = 1; at(0, 0, 1) = 2; wire(0, 0, 1); "
            + "wire(0, 1, 2); 'may 0' = 2; doorTold(0, 5) = 0; 'may 1' = 3; doorTold(0, 5) = 1").times(10, "'come 7'")
            .does("'gain 3' = FULL; at(0, 0, 1) = 2; why(1) = 1; why(0) = 13");
    }
}
