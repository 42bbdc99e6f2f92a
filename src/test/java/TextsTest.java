/** The edges of texts: what may stand where, the faults and their places, how values are worked and held. */
public final class TextsTest extends Checks {
    private static final String[] NUMBERS_AND_NAMES = {"0", "7", "999", "0000999", "tries", "since", "coins", "paid", "hour", "lot"};
    private static final String[] OPENS_E = {"(", "least", "most"};
    private static final String[] OPENS_C = {"not", "["};
    private static final String[] GOES_ON = {"+", "-", "*", "/"};
    private static final String[] TELLS = {"grip", "slip", "lots"};
    private static final String[] OTHERS = {"can", "if", "and", "or", ")", "]", ",", ";", "<", ">", "=", "x", "gri", "grips", "lott",
        "ifs", "a", "z", "Grip", "LOT", "_", "!", "{", "}", ":", "?", "&", "|", "%", ".", "\"", "\t", "\n", "\u0000", "\u0080", "\u00a0",
        "\u00ff", "\u0060", "@"};

    public static void main(String[] args) {
        about("1 what can't stand there");
        whatCanStand();
        about("at the length, if the text ends too early");
        endsTooEarly();
        about("N: digits, as many as stand there; WORDS: small letters, as many as stand there");
        asManyAsStandThere();
        about("blanks (32) may stand ahead of all these, and at the end");
        blanks();
        about("2 an N above 999");
        numbersAbove();
        about("3 a 13th CLAUSE");
        clauses();
        about("a 7th of ( [ and not that is open at one time (a not till its B ends)");
        nesting();
        about("of one the least");
        ofOneTheLeast();
        about("the first from the left");
        firstFromTheLeft();
        about("FAULTS likewise (3: the 7th alone)");
        laws();
        about("a text of up to 300 bytes");
        longTexts();
        about("a text knows nothing of the one ahead of it");
        oneBehindAnother();
        about("VALUES of E are whole numbers of 32 bits that wrap; / cuts, by 0 it is 0");
        values();
        about("of each word the VALUE of the last CLAUSE of it whose C holds (or that has none), 0 without");
        lastClause();
        about("lots: 1 at least, 36 at most (worked with lot 0); grip and slip: 0 at least, 999 at most");
        heldWithin();
        about("In force is one PROGRAM (none at first: all tell 0)");
        noneInForce();
        about("NONE, doing nothing, if there would be more than 300");
        fullTape();
        about("The first n bytes of the TAPE (empty then); n is not 0 to the TAPE's bytes (it stays)");
        firstBytes();
        about("-1: there are 6 (3)");
        fullOfTexts();
        about("The place of the FAULT of the latest program(); NONE without");
        placeOfFault();
        about("A PROGRAM (NONE: none) is in force: the one that was");
        force();
        end();
    }

    private static boolean among(String token, String[]... sets) {
        for (String[] set : sets) {
            for (String one : set) {
                if (one.equals(token)) {
                    return true;
                }
            }
        }
        return false;
    }

    /** Behind a beginning, each token there is: those of the sets may stand there (the text is too short then). */
    private static void allows(boolean law, String beginning, String[]... sets) {
        String[][] all = {NUMBERS_AND_NAMES, OPENS_E, OPENS_C, GOES_ON, TELLS, OTHERS};
        String before = beginning.isEmpty() ? "" : beginning + " ";
        for (String[] some : all) {
            for (String token : some) {
                boolean stands = among(token, sets) && !token.equals(";");
                if (!among(token, sets)) {
                    faulty(before + token, law, 1, before.length());
                } else if (stands) {
                    faulty(before + token, law, 1, before.length() + token.length());
                } else {
                    faulty(before + token, law, 0, 0);
                }
            }
        }
        boolean number = among("999", sets);
        faulty(before + "1000", law, number ? 2 : 1, before.length());
    }

    private static void whatCanStand() {
        String[] rest = {"if", ";"};
        String[] close = {")"};
        String[] comma = {","};
        String[] compare = {"<", ">", "="};
        String[] more = {"and", "or"};
        String[] last = {";"};
        String[] shut = {"]"};
        allows(false, "", TELLS);
        allows(false, "grip 1 ;", TELLS);
        allows(false, "slip", NUMBERS_AND_NAMES, OPENS_E);
        allows(false, "lots 1", GOES_ON, rest);
        allows(false, "grip lot", GOES_ON, rest);
        allows(false, "grip 1 +", NUMBERS_AND_NAMES, OPENS_E);
        allows(false, "grip 1 /", NUMBERS_AND_NAMES, OPENS_E);
        allows(false, "grip (", NUMBERS_AND_NAMES, OPENS_E);
        allows(false, "grip ( 1", GOES_ON, close);
        allows(false, "grip ( 1 )", GOES_ON, rest);
        allows(false, "grip least", new String[] {"("});
        allows(false, "grip most", new String[] {"("});
        allows(false, "grip most (", NUMBERS_AND_NAMES, OPENS_E);
        allows(false, "grip least ( 1", GOES_ON, comma);
        allows(false, "grip least ( ( 1 )", GOES_ON, comma);
        allows(false, "grip least ( 1 ,", NUMBERS_AND_NAMES, OPENS_E);
        allows(false, "grip least ( 1 , 1", GOES_ON, close);
        allows(false, "grip least ( 1 , 1 )", GOES_ON, rest);
        allows(false, "grip 1 if", NUMBERS_AND_NAMES, OPENS_E, OPENS_C);
        allows(false, "grip 1 if 1", GOES_ON, compare);
        allows(false, "grip 1 if ( 1", GOES_ON, close);
        allows(false, "grip 1 if ( 1 )", GOES_ON, compare);
        allows(false, "grip 1 if 1 <", NUMBERS_AND_NAMES, OPENS_E);
        allows(false, "grip 1 if 1 < 1", GOES_ON, more, last);
        allows(false, "grip 1 if 1 > 1 and", NUMBERS_AND_NAMES, OPENS_E, OPENS_C);
        allows(false, "grip 1 if 1 = 1 or", NUMBERS_AND_NAMES, OPENS_E, OPENS_C);
        allows(false, "grip 1 if not", NUMBERS_AND_NAMES, OPENS_E, OPENS_C);
        allows(false, "grip 1 if not 1", GOES_ON, compare);
        allows(false, "grip 1 if not 1 = 1", GOES_ON, more, last);
        allows(false, "grip 1 if [", NUMBERS_AND_NAMES, OPENS_E, OPENS_C);
        allows(false, "grip 1 if [ 1", GOES_ON, compare);
        allows(false, "grip 1 if [ 1 = 1", GOES_ON, more, shut);
        allows(false, "grip 1 if [ 1 = 1 or 1 = 1", GOES_ON, more, shut);
        allows(false, "grip 1 if [ 1 = 1 ]", more, last);
        allows(false, "grip 1 if not [ [ 1 = 1 ]", more, shut);
        String[] can = {"can"};
        allows(true, "", NUMBERS_AND_NAMES, can, OPENS_E, OPENS_C);
        allows(true, "can", GOES_ON, compare);
        allows(true, "can =", NUMBERS_AND_NAMES, can, OPENS_E);
        allows(true, "can = 1", GOES_ON, more, last);
        allows(true, "not", NUMBERS_AND_NAMES, can, OPENS_E, OPENS_C);
        allows(true, "[ 1 = 1", GOES_ON, more, shut);
        allows(true, "can = 1 and", NUMBERS_AND_NAMES, can, OPENS_E, OPENS_C);
        allows(true, "can = 1 ;");
    }

    /** Each beginning of a text, blanks behind it or not. */
    private static void shortened(String whole, boolean law) {
        String[] tokens = whole.split(" ");
        StringBuilder beginning = new StringBuilder();
        for (int i = 0; i < tokens.length - 1; i++) {
            beginning.append(i == 0 ? "" : " ").append(tokens[i]);
            faulty(beginning.toString(), law, 1, beginning.length());
            faulty(beginning + "  ", law, 1, beginning.length() + 2);
        }
        faulty(whole, law, 0, 0);
        faulty(whole + "  ", law, 0, 0);
    }

    private static void endsTooEarly() {
        shortened("grip least ( 1 , most ( 2 , tries ) ) * ( 3 ) if not [ 1 < 2 and not tries = 1 ] or 2 > 1 + 1 ;", false);
        shortened("slip 1 - lot ;", false);
        shortened("not [ can = 1 or 2 > most ( 1 , lot ) ] and [ 1 < 2 ] ;", true);
        faulty("", true, 1, 0);
        faulty("   ", true, 1, 3);
        faulty("", false, 0, 0);
        faulty("   ", false, 0, 0);
        faulty("grip 1;slip", false, 1, 11);
        ClawBoxes x = new ClawBoxes();
        tape(x, "grip 1;slip 2;");
        due("the text ends at n", x.program(9, false), -9);
        due("sl is no word", x.fault(), 7);
        tape(x, "grip 1;slip 2;");
        due("the text ends at n", x.program(13, false), -9);
        due("at the length", x.fault(), 13);
    }

    private static void asManyAsStandThere() {
        faulty("grip5;", false, 0, 0);
        faulty("grip5if 1=1or 1=2and not1=1;", false, 0, 0);
        faulty("grip 5if1=1or1=2and1=1;", false, 0, 0);
        faulty("griplot;", false, 1, 0);
        faulty("grip lotif 1=1;", false, 1, 5);
        faulty("grip lot5;", false, 1, 8);
        faulty("grip 5lot;", false, 1, 6);
        faulty("grip 1 if notnot 1=1;", false, 1, 10);
        faulty("grip 1 if 1=1 andnot 1=1;", false, 1, 14);
        faulty("grip leastmost(1,2);", false, 1, 5);
        faulty("grip l;", false, 1, 5);
        faulty("grip los;", false, 1, 5);
        faulty("grip most(1,2)grip 1;", false, 1, 14);
        grips("12+3", 15);
        grips("012", 12);
    }

    private static void blanks() {
        faulty("  grip  (  1  +  2  )  *  least  (  3  ,  4  )  if  not  [  1  <  2  ]  and  1  =  1  ;  slip  3  ;  ", false, 0, 0);
        faulty("grip(1+2)*least(3,4)if[1<2]and 1=1;slip(3);", false, 0, 0);
        faulty("  can  =  1  ;  ", true, 0, 0);
        faulty("gr ip 1;", false, 1, 0);
        faulty("grip 1 0;", false, 1, 7);
        faulty("grip 1 if no t 1=1;", false, 1, 10);
        faulty("grip\t1;", false, 1, 4);
        faulty("grip\n1;", false, 1, 4);
        faulty("grip 1;\n", false, 1, 7);
        faulty("grip 1;" + (char) 31, false, 1, 7);
        faulty("grip 1;" + (char) 33, false, 1, 7);
        faulty("grip 1;" + (char) 160, false, 1, 7);
        faulty("grip 1;" + (char) 0, false, 1, 7);
        due("blanks change nothing", ruled("grip   1  +   2 *  3  ;").tells(0, 0), 7);
    }

    private static void numbersAbove() {
        faulty("grip 999;", false, 0, 0);
        faulty("grip 1000;", false, 2, 5);
        faulty("grip 0999;", false, 0, 0);
        faulty("grip 01000;", false, 2, 5);
        faulty("grip 10000;", false, 2, 5);
        faulty("grip 2147483648;", false, 2, 5);
        faulty("grip 4294967296;", false, 2, 5);
        faulty("grip 4294967297;", false, 2, 5);
        faulty("grip 18446744073709551617;", false, 2, 5);
        faulty("grip 0;", false, 0, 0);
        faulty("grip " + "0".repeat(290) + ";", false, 0, 0);
        faulty("grip " + "0".repeat(287) + "999;", false, 0, 0);
        faulty("grip " + "9".repeat(290) + ";", false, 2, 5);
        faulty("grip   " + "0".repeat(286) + "1000;", false, 2, 7);
        faulty("grip 1+1000;", false, 2, 7);
        faulty("grip 1 if 1<1000;", false, 2, 12);
        faulty("grip 1 if not [1000<1];", false, 2, 15);
        faulty("1<1000;", true, 2, 2);
        faulty("1000<1;", true, 2, 0);
        faulty("grip 1000", false, 2, 5);
        faulty("grip 1000x", false, 2, 5);
    }

    private static void clauses() {
        String twelve = "grip 1;slip 2;lots 3;".repeat(4);
        faulty(twelve, false, 0, 0);
        faulty(twelve + " ", false, 0, 0);
        for (String word : TELLS) {
            faulty(twelve + word, false, 3, 84);
            faulty(twelve + "  " + word + " 1;", false, 3, 86);
            faulty(twelve + word + " 1000", false, 3, 84);
        }
        faulty(twelve + "grip 1;grip 1;", false, 3, 84);
        faulty("grip 1;".repeat(11) + "grip 1 if 1=1;", false, 0, 0);
        ClawBoxes x = ruled("grip 1;".repeat(11) + "grip 12;");
        due("the 12th tells", x.tells(0, 0), 12);
    }

    /** So many of each open at one time, in this order; then all are closed. */
    private static void opens(int brackets, int nots, int rounds) {
        String head = "grip 1 if " + "[".repeat(brackets) + "not ".repeat(nots) + "(".repeat(rounds);
        String all = head + "1" + ")".repeat(rounds) + "=1" + "]".repeat(brackets) + ";";
        if (brackets + nots + rounds <= 6) {
            faulty(all, false, 0, 0);
        } else {
            int place = rounds > 0 ? head.length() - 1 : nots > 0 ? head.length() - 4 : head.length() - 1;
            faulty(all, false, 3, place);
        }
        if (brackets + nots + rounds == 6) {
            faulty(head + "(1)", false, 3, head.length());
            faulty(head + "least(1,1)", false, 3, head.length() + 5);
            String left = head + "1" + ")".repeat(rounds) + "=";
            faulty(left + "(1)", false, rounds > 0 ? 1 : 3, left.length() + (rounds > 0 ? 3 : 0));
        }
    }

    private static void nesting() {
        for (int brackets = 0; brackets <= 7; brackets++) {
            for (int nots = 0; brackets + nots <= 7; nots++) {
                for (int total = 6; total <= 7; total++) {
                    if (total >= brackets + nots) {
                        opens(brackets, nots, total - brackets - nots);
                    }
                }
            }
        }
        String six = "((((((1))))))";
        faulty("grip " + six + "+" + six + "*" + six + ";", false, 0, 0);
        faulty("grip least(((((1))))),1);", false, 1, 20);
        faulty("grip least((((((1))))),((((1)))));", false, 0, 0);
        faulty("grip least(((((1)))),((((((1)))))));", false, 3, 26);
        faulty("grip least(1,least(1,least(1,least(1,least(1,least(1,1))))));", false, 0, 0);
        faulty("grip least(1,least(1,least(1,least(1,least(1,least(1,least(1,1)))))));", false, 3, 58);
        String nots = "not not not not not not 1=1";
        faulty("grip 1 if " + nots + " and " + nots + " or " + nots + ";", false, 0, 0);
        faulty("grip 1 if not [not [not [1=1]]] and (1)=1;", false, 0, 0);
        faulty("grip 1 if not [not [not [1=1 and (1)=1]]];", false, 3, 33);
        faulty("grip 1 if not [not [not [1=1] and (1)=1]];", false, 0, 0);
        faulty("grip 1 if not [not [not [1=1] and not [1=1]]];", false, 0, 0);
        faulty("grip 1 if not [not [not [1=1] and not [not 1=1]]];", false, 3, 39);
        faulty("grip " + six + " if [[[[[[1=1]]]]]];slip " + six + ";", false, 0, 0);
        faulty("grip 1 if [[[[[[1=(1)]]]]]];", false, 3, 18);
        faulty("grip 1 if [[[[[1=(1)*(1)]]]]];", false, 0, 0);
    }

    private static void ofOneTheLeast() {
        String twelve = "grip 1;".repeat(12);
        faulty(twelve + "x", false, 1, 84);
        faulty(twelve + "grips 1;", false, 1, 84);
        faulty(twelve + "1000", false, 1, 84);
        faulty(twelve + ";", false, 1, 84);
        faulty(twelve + "(", false, 1, 84);
        faulty("grip 1 1000;", false, 1, 7);
        faulty("1000", false, 1, 0);
        faulty("grip least 1000;", false, 1, 11);
        faulty("grip ((((((1(", false, 1, 12);
        faulty("grip ((((((not", false, 1, 11);
        faulty("grip ((((((1))))))[", false, 1, 18);
        faulty("grip 1 if [[[[[[1=1[", false, 1, 19);
        faulty("grip 1 if [[[[[[1=1 not", false, 1, 20);
        faulty("grip 1 if [[[[[[1=[", false, 1, 18);
        faulty("grip ((((((least[", false, 1, 16);
        faulty("grip ((((((1000", false, 2, 11);
    }

    private static void firstFromTheLeft() {
        faulty("grip 1000 x", false, 2, 5);
        faulty("grip x 1000", false, 1, 5);
        faulty("grip (((((((1000 x", false, 3, 11);
        faulty("grip 1;;grip 1000;", false, 1, 7);
        faulty("grip 1000;;", false, 2, 5);
        faulty("grip (1;slip 1000;", false, 1, 7);
        faulty("grip 1;".repeat(5) + "slip 1000;" + "grip 1;".repeat(8), false, 2, 40);
        faulty("! grip", false, 1, 0);
    }

    private static void laws() {
        faulty("1=1 or ".repeat(20) + "1=1;", true, 0, 0);
        faulty("((((((can))))))=1;", true, 0, 0);
        faulty("(((((((can)))))))=1;", true, 3, 6);
        faulty("[[[[[[can=1]]]]]];", true, 0, 0);
        faulty("[[[[[[[can=1]]]]]]];", true, 3, 6);
        faulty("not not not not not not can=1;", true, 0, 0);
        faulty("not not not not not not not can=1;", true, 3, 24);
        faulty("tries>0;since>0;", true, 1, 8);
        faulty("tries>0", true, 1, 7);
        faulty("tries>0;;", true, 1, 8);
        faulty("grip 1;", true, 1, 0);
        faulty("1=1 if 1=1;", true, 1, 4);
        faulty("grip can;", false, 1, 5);
        faulty("grip 1 if can=1;", false, 1, 10);
    }

    private static void longTexts() {
        String sum = "1+".repeat(146) + "1";
        String whole = "grip  " + sum + ";";
        due("300 bytes", whole.length(), 300);
        faulty(whole, false, 0, 0);
        due("147 ones", ruled(whole).tells(0, 0), 147);
        faulty("grip  " + sum + "+", false, 1, 300);
        faulty("grip  " + sum + "x", false, 1, 299);
        faulty("a".repeat(300), false, 1, 0);
        faulty("(".repeat(300), true, 3, 6);
        faulty(" ".repeat(300), false, 0, 0);
        faulty(" ".repeat(299) + "x", false, 1, 299);
        faulty(" ".repeat(300), true, 1, 300);
        faulty(";".repeat(300), false, 1, 0);
        String law = "1=1 or ".repeat(42) + "1=1;";
        faulty(law, true, 0, 0);
        faulty(law + " ".repeat(300 - law.length()), true, 0, 0);
        String nested = "1+(".repeat(6) + "1" + "+1".repeat(120) + ")".repeat(6);
        due("deep and long", ruled("grip " + nested + ";").tells(0, 0), 127);
        String right = "grip 1 if " + "1=1 or ".repeat(40) + "1=2;";
        due("many or", ruled(right).tells(0, 0), 1);
    }

    private static void oneBehindAnother() {
        ClawBoxes x = new ClawBoxes();
        due("six open as it ends", text(x, "grip ((((((1", false), -9);
        due("six may be open again", text(x, "grip ((((((12))))));", false), 0);
        due("a FAULT in the 12th CLAUSE", text(x, "grip 1;".repeat(11) + "grip x;", false), -9);
        due("12 CLAUSES", text(x, "grip 1;".repeat(11) + "slip 34;", false), 1);
        due("a LAW", text(x, "not not can=1;", true), 0);
        due("no can in a PROGRAM", text(x, "grip can;", false), -9);
        due("no LAW", text(x, "[[[[[[[can=1;", true), -7);
        due("a PROGRAM", text(x, "grip 5 if [[[[[[1=1]]]]]];", false), 2);
        x.force(0);
        due("grip of the first", x.tells(0, 0), 12);
        due("slip of the first", x.tells(1, 0), 0);
        x.force(1);
        due("grip of the second", x.tells(0, 0), 1);
        due("slip of the second", x.tells(1, 0), 34);
        x.force(2);
        due("grip of the third", x.tells(0, 0), 5);
    }

    private static void values() {
        grips("7/2", 3);
        grips("(0-7)/2+10", 7);
        grips("7/(0-2)+10", 7);
        grips("(0-7)/(0-2)", 3);
        grips("7/0+4", 4);
        grips("(0-7)/0+4", 4);
        grips("0/0+4", 4);
        grips("7/(3-3)+4", 4);
        grips("7/0*5+6/2", 3);
        grips("10-4-3", 3);
        grips("60/6/2", 5);
        grips("60/6*2", 20);
        grips("2+3*4-6/2", 11);
        String half = "512*512*512*16";
        holds(half + "<0", true);
        holds(half + "*2=0", true);
        holds(half + "-1>0", true);
        holds(half + "-1+1=" + half, true);
        holds("0-" + half + "=" + half, true);
        holds(half + "/(0-1)=" + half, true);
        holds(half + "/2=0-512*512*512*8", true);
        holds("999*999*999*999=" + wrapped(999 * 999 * 999 * 999), true);
        holds("most(" + half + ",1)=1", true);
        holds("least(" + half + ",1)<0", true);
        holds("least(2,2)=most(2,2)", true);
        holds("1<1", false);
        holds("1>1", false);
        holds("1<2", true);
        holds("2>1", true);
        holds("0-1<0", true);
        holds("1=1 or 7/0=1", true);
        holds("1=2 and 7/0=0", false);
        holds("1=1 and 7/0=0", true);
        holds("1=2 or 1=2 or 1=1", true);
        holds("1=1 and 1=1 and 1=2", false);
        holds("1=2 and 1=2 or 1=1", true);
        holds("2>1 and 1=1", true);
        holds("1=1 and 2>1", true);
        holds("1<2 and 2>1", true);
        holds("1<2 and 1=1", true);
        holds("not 1=2 and 1=1", true);
        holds("not 1=2 and 2>1", true);
        holds("[1=1 or 1=2] and not 2>3", true);
        holds("not 1=1 or 1=1", true);
        holds("not [1=1 or 1=1]", false);
    }

    /** A whole number of 32 bits by numbers up to 999 alone. */
    private static String wrapped(int v) {
        return "(" + (v >>> 24) + "*256*256*256+" + (v >>> 16 & 255) + "*256*256+" + (v >>> 8 & 255) + "*256+" + (v & 255) + ")";
    }

    private static void lastClause() {
        due("the last", ruled("grip 5;grip 6;").tells(0, 0), 6);
        due("whose C holds", ruled("grip 5;grip 6 if 1=2;").tells(0, 0), 5);
        due("that has none", ruled("grip 6 if 1=1;grip 5;").tells(0, 0), 5);
        due("of it", ruled("grip 5;slip 6;").tells(0, 0), 5);
        due("0 without a CLAUSE", ruled("slip 6;lots 3;").tells(0, 0), 0);
        due("0 if none holds", ruled("slip 6 if 1=2;slip 7 if 1>2;").tells(1, 0), 0);
        due("a 0 told last", ruled("grip 5;grip 0;").tells(0, 0), 0);
        due("held within its bounds at the end alone", ruled("grip 9;grip 0-9;").tells(0, 0), 0);
        ClawBoxes empty = ruled("");
        due("the empty text: grip", empty.tells(0, 0), 0);
        due("the empty text: slip", empty.tells(1, 0), 0);
        due("the empty text: lots", empty.tells(2, 0), 1);
    }

    private static void heldWithin() {
        String[] texts = {"0-1", "0", "1", "2", "35", "36", "37", "998", "999", "999+1", "999*999", "512*512*512*16", "512*512*512*16-1"};
        int[] values = {-1, 0, 1, 2, 35, 36, 37, 998, 999, 1000, 998001, Integer.MIN_VALUE, Integer.MAX_VALUE};
        for (int i = 0; i < texts.length; i++) {
            ClawBoxes x = ruled("grip " + texts[i] + ";slip " + texts[i] + ";lots " + texts[i] + ";");
            due("grip " + texts[i], x.tells(0, 0), Math.max(0, Math.min(999, values[i])));
            due("slip " + texts[i], x.tells(1, 0), Math.max(0, Math.min(999, values[i])));
            due("lots " + texts[i], x.tells(2, 0), Math.max(1, Math.min(36, values[i])));
        }
        due("lots worked with lot 0", ruled("lots 5+lot;").tells(2, 7), 5);
        due("its C, too", ruled("lots 5 if lot=0;").tells(2, 7), 5);
        due("its C, too", ruled("lots 5 if lot>0;").tells(2, 7), 1);
        due("grip by a LOT beyond lots", ruled("grip lot;lots 2;").tells(0, 35), 35);
        due("slip by a LOT", ruled("slip 3*lot;").tells(1, 35), 105);
    }

    private static void noneInForce() {
        ClawBoxes x = new ClawBoxes();
        text(x, "grip 50;slip 5;lots 7;", false);
        x.lay(9, 1, 0, 5);
        due("grip", x.tells(0, 35), 0);
        due("slip", x.tells(1, 35), 0);
        due("lots: 1 at least", x.tells(2, 35), 1);
        due("can", x.can(false), NONE);
        due("can by all", x.can(true), NONE);
        due("weak", x.attempt(9), 1);
        due("its LOT", x.record(0, 3), 0);
        due("no DRAW", x.count(13), 1);
        x.force(0);
        due("grip in force", x.tells(0, 0), 50);
        x.force(NONE);
        due("none again", x.tells(0, 0), 0);
        due("weak again", x.attempt(9), 1);
        due("no DRAW again", x.count(13), 1);
    }

    private static void fullTape() {
        ClawBoxes x = new ClawBoxes();
        String whole = "grip " + "1+".repeat(144) + "11 ;";
        tape(x, whole.substring(0, 280));
        due("280", x.count(12), 280);
        tape(x, whole.substring(280));
        due("300", x.count(12), 300);
        due("a 16th feed", x.feed(-1, -1, -1, -1, -1), NONE);
        due("300 still", x.count(12), 300);
        due("the same bytes still", x.program(whole.length(), false), 0);
        x.force(0);
        due("grip", x.tells(0, 0), 155);
        due("empty again", x.feed(0, 0, 0, 0, 0), 20);
        x.program(0, false);
        due("the highest byte first", x.feed(0x67726970, 0x2031323b, 0x736c6970, 0x20353b20, 0x20202020), 20);
        due("read", x.program(20, false), 2);
        x.force(2);
        due("grip 12", x.tells(0, 0), 12);
        due("slip 5", x.tells(1, 0), 5);
        x.feed(0x20202020, 0xff202020, 0, 0, 0);
        due("byte 255", x.program(8, false), -9);
        due("its place", x.fault(), 4);
    }

    private static void firstBytes() {
        ClawBoxes x = new ClawBoxes();
        tape(x, "grip 12;slip 34;");
        refused(WRONG, "21 of 20", () -> x.program(21, false));
        refused(WRONG, "-1", () -> x.program(-1, true));
        refused(WRONG, "300", () -> x.program(300, true));
        due("the TAPE stays", x.count(12), 20);
        due("its first 8", x.program(8, false), 0);
        due("empty then", x.count(12), 0);
        refused(WRONG, "what was behind them is gone", () -> x.program(1, false));
        x.force(0);
        due("grip", x.tells(0, 0), 12);
        due("slip", x.tells(1, 0), 0);
        tape(x, "grip 12;");
        due("none of them: the empty text", x.program(0, false), 1);
        due("empty then", x.count(12), 0);
        tape(x, "grip 12;");
        due("a FAULT", x.program(20, false), -9);
        due("empty then, too", x.count(12), 0);
        tape(x, "1=1;");
        due("no LAW of 0 bytes", x.program(0, true), -9);
        due("empty then, too", x.count(12), 0);
    }

    private static void fullOfTexts() {
        ClawBoxes x = new ClawBoxes();
        for (int i = 0; i < 6; i++) {
            due("a PROGRAM", text(x, "grip 1;", false), i);
            due("a FAULT takes no number", text(x, "grip x;", false), -9);
        }
        due("a 7th", text(x, "grip 1;", false), -1);
        due("no FAULT", x.fault(), NONE);
        due("the TAPE is empty", x.count(12), 0);
        due("6", x.count(8), 6);
        for (int i = 0; i < 3; i++) {
            due("a LAW has numbers of its own", text(x, "1=1;", true), i);
        }
        due("a 4th", text(x, "1=1;", true), -1);
        due("no FAULT", x.fault(), NONE);
        due("the TAPE is empty", x.count(12), 0);
        due("3", x.count(9), 3);
        due("a FAULT is told even then", text(x, "grip 1000;", false), -8);
        due("its place", x.fault(), 5);
        due("a FAULT of a LAW, too", text(x, "1=;", true), -9);
        due("its place", x.fault(), 2);
        x.force(5);
        due("the 6th tells", x.tells(0, 0), 1);
    }

    private static void placeOfFault() {
        ClawBoxes x = new ClawBoxes();
        due("none yet", x.fault(), NONE);
        text(x, "grip x;", false);
        due("of a PROGRAM", x.fault(), 5);
        due("still", x.fault(), 5);
        refused(WRONG, "a refused call", () -> x.program(1, false));
        due("still", x.fault(), 5);
        text(x, "tries;", true);
        due("of a LAW", x.fault(), 5);
        text(x, "x", true);
        due("at 0", x.fault(), 0);
        text(x, "1=1;", true);
        due("without", x.fault(), NONE);
        text(x, "x", false);
        x.program(0, false);
        due("the empty text is without", x.fault(), NONE);
    }

    private static void force() {
        ClawBoxes x = new ClawBoxes();
        due("none at first", x.force(NONE), NONE);
        text(x, "grip 1;", false);
        text(x, "grip 2;", false);
        due("none is in force by being told", x.tells(0, 0), 0);
        due("0", x.force(0), NONE);
        due("0 again", x.force(0), 0);
        due("1", x.force(1), 0);
        refused(WRONG, "2", () -> x.force(2));
        refused(WRONG, "-2", () -> x.force(-2));
        due("1 still", x.force(NONE), 1);
        due("none", x.force(0), NONE);
    }
}
