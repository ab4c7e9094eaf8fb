/** Promises 28 to 32: the tape, texts, their faults and what they give. */
public final class TextsTest {
    private static final Due due = new Due("TextsTest");
    private static final int MIN = Integer.MIN_VALUE, MAX = Integer.MAX_VALUE;

    public static void main(String[] args) {
        feed();
        trim();
        bytesAreHighestFirst();
        faultsOfWords();
        faultsOfPieces();
        faultsOfDepth();
        usesTheTapeUp();
        full();
        values();
        namesOfCome();
        namesOfGain();
        lastOneCounts();
        textTold();
        due.end();
    }

    private static void feed() {
        TwoBells x = new TwoBells();
        for (int i = 1; i <= 8; i++) {
            due.is("28: has", 12 * i, x.feed(MIN, -1, MAX));
        }
        due.is("28: full", Due.FULL, x.feed(0, 0, 0));
        due.is("28: has", 96, x.count(8));
        x.trim(85);
        due.is("28: full by one", Due.FULL, x.feed(0, 0, 0));
        due.is("28: has", 85, x.count(8));
        x.trim(84);
        due.is("28: just fits", 96, x.feed(0, 0, 0));
    }

    private static void trim() {
        TwoBells x = new TwoBells();
        due.is("29: of nothing", 0, x.trim(0));
        due.is("29: bad", Due.BAD, x.trim(1));
        x.feed(0, 0, 0);
        due.is("29: all", 12, x.trim(12));
        for (int n : new int[] {-1, 13, MIN, MAX}) {
            due.is("29: bad", Due.BAD, x.trim(n));
        }
        due.is("29: unchanged", 12, x.count(8));
        due.is("29: some", 5, x.trim(5));
        due.is("29: some", 5, x.count(8));
        due.is("29: bad beyond what is kept", Due.BAD, x.trim(6));
        due.is("28: goes on behind", 17, x.feed(0, 0, 0));
    }

    private static void bytesAreHighestFirst() {
        TwoBells x = new TwoBells();
        x.feed(0x636f6d65, 0x20612b31, 0x32202020);  // come a+12
        due.is("28: order of bytes", 0, x.text());
        due.is("28: order of bytes", 2, x.textTold(0, 1));
        x.feed(0x636f6d65, 0x2061FF20, 0x20202020);
        due.is("28: a high byte is a sign", -106, x.text());
        x.feed(0x636f6d65, 0x20610020, 0x20202020);
        due.is("28: byte 0 is a sign", -106, x.text());
    }

    private static void faultAt(String text, int place) {
        due.is("30: '" + text + "'", -100 - place, Due.tell(new TwoBells(), text));
    }

    private static void right(String text) {
        due.is("30: '" + text + "'", 0, Due.tell(new TwoBells(), text));
    }

    private static void faultsOfWords() {
        due.is("30: empty tape", -100, new TwoBells().text());
        faultAt("   ", 3);
        faultAt("come", 4);
        faultAt("  gain  ", 8);
        faultAt("coma a", 0);
        faultAt(" comes a", 1);
        faultAt("comea", 0);
        faultAt("com", 0);
        faultAt("comez", 0);
        faultAt("acome z", 0);
        faultAt("xome a", 0);
        faultAt("comx a", 0);
        faultAt("mai p", 0);
        faultAt("gai w", 0);
        faultAt("5 + a", 0);
        faultAt("(come a)", 0);
        faultAt("Come a", 0);
        faultAt("come5", 4);
        faultAt("come 5a", 6);
        faultAt("come a5", 6);
        faultAt("come a c", 7);
        faultAt("come 1 2", 7);
        faultAt("come 12345", 5);
        faultAt("come 00000", 5);
        faultAt("come ac", 5);
        faultAt("come come", 5);
        faultAt("come A", 5);
        faultAt("come\ta", 4);
        faultAt("come a\n", 6);
        faultAt("come a.", 6);
        right("come(5)");
        right("may!p");
        right("come 0000");
        right("   come    a   +   9999   ");
        for (char c = 'a'; c <= 'z'; c++) {
            nameOr(c, "come", "aclp");
            nameOr(c, "gain", "wm");
            nameOr(c, "may", "pqo");
        }
    }

    private static void nameOr(char name, String key, String names) {
        String text = key + " " + name;
        if (names.indexOf(name) >= 0) {
            right(text);
        } else {
            faultAt(text, key.length() + 1);
        }
    }

    private static void faultsOfPieces() {
        faultAt("come a+", 7);
        faultAt("come a+ ", 8);
        faultAt("come +a", 5);
        faultAt("come -1", 5);
        faultAt("come a--1", 7);
        faultAt("come a!", 6);
        faultAt("come a!c", 6);
        faultAt("come !", 6);
        faultAt("come ()", 6);
        faultAt("come (a", 7);
        faultAt("come (a  ", 9);
        faultAt("come a)", 6);
        faultAt("come (a))", 8);
        faultAt("come (a)c", 8);
        faultAt("come (a)(c)", 8);
        faultAt("come a(c)", 6);
        faultAt("come a<c<l", 8);
        faultAt("come a=c>l", 8);
        faultAt("come a+1<c*2=l", 12);
        faultAt("come a<c&c<l<p", 12);
        faultAt("come a<=c", 7);
        faultAt("come a==c", 7);
        faultAt("come a&&c", 7);
        faultAt("come a||c", 7);
        faultAt("come a%c", 6);
        right("come (a<c)<l");
        right("come a<(c<l)");
        right("come a<c&c<l|l=p&p>1");
        right("come a+c-l*p/2");
        right("come !a*!(c)");
        right("come !(a<c)<l");
    }

    private static String times(String part, int n) {
        return part.repeat(n);
    }

    private static void faultsOfDepth() {
        right("come " + times("(", 8) + "a" + times(")", 8));
        faultAt("come " + times("(", 9) + "a" + times(")", 9), 13);
        right("come " + times("!", 8) + "a");
        faultAt("come " + times("!", 9) + "a", 13);
        faultAt("come " + times("! ", 9) + "a", 5 + 16);
        right("come " + times("!(", 8) + "a" + times(")", 8));
        faultAt("come " + times("!(", 8) + "!a" + times(")", 8), 5 + 16);
        faultAt("come " + times("!(", 8) + "(a" + times(")", 9), 5 + 16);
        right("come " + times("(!", 8) + "a" + times(")", 8));
        right("come " + times("!", 8) + times("(", 8) + "a" + times(")", 8));
        // One behind the other they are not open within others.
        right("come a" + times("+(c)", 12));
        right("come a" + times("+!c", 12));
        right("come " + times("(", 7) + "(a)+(c)" + times(")", 7));
        right("come " + times("!(", 7) + "!a+!c" + times(")", 7));
        right("come " + times("!", 8) + "(a)*" + times("!", 8) + "a");
        faultAt("come " + times("!", 7) + "(!a+!!c)", 5 + 7 + 5);
        faultAt("come a+" + times("(", 8) + "c+(c", 7 + 8 + 2);
    }

    private static void usesTheTapeUp() {
        TwoBells x = new TwoBells();
        Due.put(x, "come a");
        x.text();
        due.is("30: used up", 0, x.count(8));
        Due.put(x, "come +");
        x.text();
        due.is("30: used up by a fault", 0, x.count(8));
        due.is("30: nothing is left", -100, x.text());
        due.is("30: one text", 1, x.count(6));
        for (String spoilt : new String[] {"come ((((((((a+", "come !!!!!!!!", "come a+c*(", "may p<q<"}) {
            Due.tell(x, spoilt);
            due.holds("30: nothing is left of '" + spoilt + "'", Due.tell(x, "come !!!!!!!!((((((((a+c))))))))") > 0);
            due.is("31: nothing is left", 2, x.textTold(x.why(0), 1));
            Due.tell(x, spoilt);
            due.is("30: nothing is left of '" + spoilt + "'", -106, Due.tell(x, "come a)"));
            Due.tell(x, spoilt);
            due.holds("30: nothing is left of '" + spoilt + "'", Due.tell(x, "come a<c") > 0);
        }
    }

    private static void full() {
        TwoBells x = new TwoBells();
        for (int i = 0; i < 14; i++) {
            due.is("30: number", i, Due.tell(x, i % 2 == 0 ? "come a" : "gain w"));
        }
        due.is("30: a fault ahead of full", -105, Due.tell(x, "come b"));
        Due.put(x, "may p");
        due.is("30: full", Due.FULL, x.text());
        due.is("30: used up when full", 0, x.count(8));
        due.is("30: fourteen", 14, x.count(6));
        due.is("30: not told", Due.NONE, x.why(2));
        due.is("32: of come", 12, x.why(0));
        due.is("32: of gain", 13, x.why(1));
    }

    /** Of the law come, with awake 7, cares 3, load 2, patience 5; held within 0 .. 100. */
    private static void gives(String e, int want) {
        TwoBells x = new TwoBells();
        x.house(7, 3);
        x.patience(5);
        x.door(0, 1);
        x.wire(0, 0, 0);
        x.wire(0, 1, 0);
        due.is("30: " + e, 0, Due.tell(x, "come " + e));
        due.is("3: " + e + " gives", want, x.houseTold(0, 4));
    }

    private static void values() {
        gives("42", 42);
        gives("0042", 42);
        gives("a+c*l-p/2", 7 + 6 - 2);
        gives("(a+c)*l", 20);
        gives("9-4-3", 2);
        gives("80/4/5", 4);
        gives("7*9/4", 15);
        gives("7/4*9", 9);
        gives("50+(0-7)/2", 47);
        gives("50+(7/(0-2))", 47);
        gives("50+a/0", 50);
        gives("50+0/0", 50);
        gives("0-1", 0);
        gives("101", 100);
        gives("100", 100);
        gives("9+(3<4)", 10);
        gives("9+(4<4)", 9);
        gives("9+(4=4)", 10);
        gives("9+(4=3)", 9);
        gives("9+(4>3)", 10);
        gives("9+(4>4)", 9);
        gives("3+4<8", 1);
        gives("2*3=6", 1);
        gives("5&9", 1);
        gives("5&0", 0);
        gives("0&5", 0);
        gives("0|9", 1);
        gives("9|0", 1);
        gives("0|0", 0);
        gives("1|0&0", 1);
        gives("0&0|1", 1);
        gives("(1|0)&0", 0);
        gives("0&1|1", 1);
        gives("1|1&0", 1);
        gives("2<3&3<2|4=4", 1);
        gives("5<7&6", 1);
        gives("!0", 1);
        gives("!9", 0);
        gives("!!9", 1);
        gives("9+!0", 10);
        gives("!0*9", 9);
        gives("!0+9", 10);
        gives("!(0+9)", 0);
        gives("!0<1", 0);
        gives("!a=0", 1);
        gives("5-!0-!0", 3);
        gives("9/2*(a-!!c)", 24);
        gives("(9999*9999*9999*9999/9999>0)+7", 9999 * 9999 * 9999 * 9999 / 9999 > 0 ? 8 : 7);
        gives("9999*9999*22>0", 9999 * 9999 * 22 > 0 ? 1 : 0);
        gives("(0-8192*8192*32)/(0-1)<0", 1);
        gives("8192*8192*32=0-8192*8192*32", 1);
        gives("1-(0-8192*8192*32)>0", 0);
    }

    private static void namesOfCome() {
        gives("a", 7);
        gives("c", 3);
        gives("l", 2);
        gives("p", 5);
        TwoBells x = new TwoBells();
        x.house(7, 3);
        x.house(90, 3);
        x.thief(2, 1);
        x.thief(3, 1);
        Due.tell(x, "come a*10");
        due.is("17: heed by the law", 35, x.heed(0, 0));
        due.is("17: heed by the law, near", 70, x.heed(1, 0));
        due.is("17: heed by the law, held", 50, x.heed(0, 1));
        x.door(1, 1);
        x.wire(0, 1, 0);
        due.is("16: missed by the law", 65 * 100, x.at(0, 0, 0));
    }

    private static void namesOfGain() {
        TwoBells x = new TwoBells();
        x.house(50, 100);
        x.house(0, 0);
        x.door(0, 30);
        x.door(0, 40);
        x.thief(1, 1);
        x.wire(1, 0, 0);
        Due.tell(x, "gain w*m");
        due.is("16: held", 99999, x.at(0, 0, 1));
        Due.tell(x, "gain w-m");
        due.is("16: held", 0, x.at(0, 0, 1));
        Due.tell(x, "gain w*1000+m");
        due.is("16: gain by the law", 40000, x.at(0, 0, 1));
        due.is("16: gain by the law", 45000, x.at(0, 1, 1));
        due.is("16: missed stays", 5000, x.at(0, 1, 0));
        due.is("24: worst by the law", 45000, x.worst(2));
        Due.tell(x, "gain 0");
        due.is("18: choice by the law", 0, x.choice(0));
        Due.tell(x, "gain w");
        due.is("18: choice by the law", 1, x.choice(0));
        Due.tell(x, "gain m");
        due.is("18: choice by the law", 0, x.choice(0));
        due.is("16: gain m", 10000, x.at(0, 0, 1));
        due.is("19: worth is taken, not gain", 30, x.nights(1));
    }

    private static void lastOneCounts() {
        TwoBells x = new TwoBells();
        x.house(50, 50);
        due.is("32: none", Due.NONE, x.why(0));
        Due.tell(x, "come 1");
        Due.tell(x, "may 1");
        Due.tell(x, "come 2");
        Due.tell(x, "gain 1");
        due.is("32: last come", 2, x.why(0));
        due.is("32: last gain", 3, x.why(1));
        due.is("32: last may", 1, x.why(2));
        due.is("32: it counts", 2, x.houseTold(0, 4));
        Due.tell(x, "come 3+");
        due.is("32: a fault does not count", 2, x.why(0));
        for (int k : new int[] {-1, 3, MIN, MAX}) {
            due.is("32: bad", Due.BAD, x.why(k));
        }
    }

    private static void textTold() {
        TwoBells x = new TwoBells();
        due.is("31: none yet", Due.BAD, x.textTold(0, 0));
        Due.tell(x, "may !(p+1)*q<((0012))|o&p");
        Due.tell(x, "come 5");
        Due.tell(x, "gain w/w/w");
        int[][] want = {{2, 6}, {0, 1}, {1, 3}};
        for (int t = 0; t < 3; t++) {
            due.is("31: key", want[t][0], x.textTold(t, 0));
            due.is("31: numbers and names of " + t, want[t][1], x.textTold(t, 1));
        }
        int[][] bad = {{-1, 0}, {3, 0}, {0, -1}, {0, 2}, {MIN, 0}, {0, MAX}};
        for (int[] b : bad) {
            due.is("31: bad", Due.BAD, x.textTold(b[0], b[1]));
        }
    }
}
