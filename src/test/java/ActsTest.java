/** Term 2, what was LAWFUL, and promises 10 to 16, sentence by sentence: the tape, acts, faults, what topics tell. */
public final class ActsTest {
    private static final Check check = new Check();
    private static final int LOW = Check.LOW;
    private static final int HIGH = Check.HIGH;
    private static final String FIVE = "walk if sum=1 and sum=1 and sum=1 and sum=1 and sum=1:no;";

    public static void main(String[] args) {
        feed();
        feedBytes();
        end();
        act();
        actRefused();
        goodTexts();
        tokens();
        bytes();
        whatNoTextGoesOnWith();
        ends();
        fullTape();
        aboveHundred();
        oneTooMany();
        firstFault();
        fault();
        good();
        tells();
        tellsRefused();
        topics();
        subjects();
        firstLine();
        tests();
        tellsNow();
        lawful();
        lawfulRefused();
        lawfulFacts();
        check.finish();
    }

    private static void feed() {
        check.says("Promise 10", "NONE, and nothing comes, if there would be more than 600.");
        check.says("Term 2", "THE TAPE has at most 600 bytes.");
        DebtorsHouse x = Check.persons(0);
        for (int i = 1; i <= 30; i++) {
            check.due("feed " + i, x.feed(0x20202020, 0x20202020, 0x20202020, 0x20202020, 0x20202020), 20 * i);
        }
        check.due("620 would be", x.feed(1, 2, 3, 4, 5), -1);
        check.due("600 it has", x.end(600), 600);
        check.due("not 601", x.end(601), -1);
        check.due("599 are left", x.end(599), 599);
        check.due("619 would be", x.feed(1, 2, 3, 4, 5), -1);
        check.due("581 are left", x.end(581), 581);
        check.due("601 would be", x.feed(1, 2, 3, 4, 5), -1);
        check.due("nothing came", x.end(582), -1);
        check.due("580 are left", x.end(580), 580);
        check.due("600 would be", x.feed(1, 2, 3, 4, 5), 600);
        check.due("it is full once more", x.feed(1, 2, 3, 4, 5), -1);
        check.due("what came last is there", x.act(0), -1);
        check.due("its first byte is a 0", x.fault(1), 580);
    }

    private static void feedBytes() {
        check.says("Promise 10", "The tape: twenty bytes come behind it, of each number the highest first: how many it has.");
        DebtorsHouse x = Check.persons(0);
        check.due("twenty", x.feed(0x68656c64, 0x3a6e6f3b, 0x656e7472, 0x793a373b, 0x6b656570), 20);
        check.due("twenty more", x.feed(0x3a383b77, 0x616c6b3a, 0x393b0a20, 0x20202020, 0x20200a0a), 40);
        check.due("they are a text", x.act(0), 0);
        check.due("held:no;", x.tells(0, 0, 0), 0);
        check.due("entry:7;", x.tells(0, 1, 0), 7);
        check.due("keep:8;", x.tells(0, 7, 0), 8);
        check.due("walk:9;", x.tells(0, 3, 0), 9);
        check.due("behind what is left", x.feed(0x656e7472, 0x793a3578, 0, 0, 0), 20);
        x.end(7);
        check.due("seven and twenty", x.feed(0x3b202020, HIGH, LOW, -1, 0), 27);
        x.end(11);
        check.due("entry:5;", x.act(0), 1);
        check.due("it tells", x.tells(0, 1, 1), 5);
        int blanks = 0x20202020;
        int[][] firstBad = {{0, 4}, {HIGH, 4}, {LOW, 4}, {-1, 4}, {0x20002020, 5}, {0x20ff2020, 5}, {0x20200020, 6},
            {0x20208020, 6}, {0x20202000, 7}, {0x202020a0, 7}};
        for (int[] bad : firstBad) {
            x.feed(blanks, bad[0], blanks, blanks, blanks);
            check.due("with " + bad[0], x.act(0), -1);
            check.due("the first byte that is none of a text in " + bad[0], x.fault(1), bad[1]);
        }
        for (int number = 0; number < 5; number++) {
            int[] f = {blanks, blanks, blanks, blanks, blanks};
            f[number] = 0x20202021;
            x.feed(f[0], f[1], f[2], f[3], f[4]);
            x.act(0);
            check.due("number " + number + " comes in its turn", x.fault(1), 4 * number + 3);
        }
    }

    private static void end() {
        check.says("Promise 11", "The tape has its first n bytes alone: n.");
        DebtorsHouse x = Check.persons(0);
        check.due("none of none", x.end(0), 0);
        Check.feedText(x, 0, "entry:123;entry:456;");
        check.due("all", x.end(20), 20);
        check.due("all but one", x.end(19), 19);
        check.due("a half", x.end(10), 10);
        check.due("the rest is gone", x.end(11), -1);
        check.due("a text is left", x.act(0), 0);
        check.due("of the first bytes", x.tells(0, 1, 0), 123);
        x.feed(0, 0, 0, 0, 0);
        check.due("none", x.end(0), 0);
        check.due("it is empty", x.feed(0, 0, 0, 0, 0), 20);
        check.says("Promise 11", "NONE if it has not so many, or n is below 0.");
        for (int n : new int[] {21, 600, 601, HIGH, -1, -20, LOW}) {
            check.due("end(" + n + ")", x.end(n), -1);
        }
        check.due("twenty, as it was", x.end(20), 20);
        check.due("of an empty one", new DebtorsHouse().end(1), -1);
    }

    private static void act() {
        check.says("Promise 12", "The tape is taken (and is empty then), as an ACT good from a DAY on, 0 .. 9999: its number.");
        DebtorsHouse x = Check.persons(0);
        x.day();
        check.due("of an empty tape", x.act(0), 0);
        check.due("good from 9999 on", Check.act(x, "entry:2;", 9999), 1);
        check.due("good on the last day", x.good(9999, 1), 1);
        check.due("not on the day ahead", x.good(9998, 1), 0);
        check.due("the tape is empty then", x.end(1), -1);
        check.due("it has no bytes", x.end(0), 0);
        check.due("good from 0 on, later than now", Check.act(x, "entry:3;", 2), 2);
        check.due("not yet good", x.good(1, 1), 0);
        check.due("good on its first day", x.good(2, 1), 2);
        check.says("Term 2", "ACTS, at most 4, from 0 on, are texts, good from a DAY on; each is TOLD on the DAY of now.");
        x.day();
        check.due("the fourth", Check.act(x, "entry:4;", 0), 3);
        check.due("it is told today", x.good(9999, 2), 3);
        check.due("not yesterday", x.good(9999, 1), 2);
        check.due("acts", x.count(3), 4);
        check.due("a fifth", Check.act(x, "entry:5;", 0), -2);
        check.due("acts as they were", x.count(3), 4);
        for (int a = 0; a < 4; a++) {
            check.due("entry by act " + a, x.tells(0, 1, a), a == 0 ? 0 : a + 1);
        }
    }

    private static void actRefused() {
        check.says("Promise 12", "NONE: a FAULT.");
        DebtorsHouse x = Check.persons(0);
        check.due("a fault", Check.act(x, "held", 0), -1);
        check.due("no act came", x.count(3), 0);
        check.due("the tape was taken", x.end(1), -1);
        check.says("Promise 12", "-2: there are 4, or it is another DAY (no text is read then, FAULT 0).");
        for (int from : new int[] {-1, 10000, LOW, HIGH}) {
            Check.act(x, "held", 0);
            check.due("a fault ahead of it", x.fault(0), 1);
            check.due("from " + from, Check.act(x, "held:no;", from), -2);
            check.due("fault of " + from, x.fault(0), 0);
            check.due("place of " + from, x.fault(1), -1);
            check.due("the tape was taken by " + from, x.feed(0, 0, 0, 0, 0), 20);
            check.due("a faulty text from " + from, x.act(from), -2);
            check.due("no text is read from " + from, x.fault(0), 0);
        }
        check.due("none came", x.count(3), 0);
        for (int a = 0; a < 4; a++) {
            x.act(a);
        }
        Check.feedText(x, 0, "held");
        check.due("there are 4", x.act(0), -2);
        check.due("no text is read", x.fault(0), 0);
        check.due("no place", x.fault(1), -1);
        check.due("the tape was taken", x.end(1), -1);
        check.due("there are 4, and another day", x.act(-1), -2);
        check.due("four they are", x.count(3), 4);
    }

    private static void textIsGood(String text) {
        DebtorsHouse x = Check.persons(0);
        check.due("act of '" + text + "'", Check.act(x, text, 0), 0);
        check.due("fault of '" + text + "'", x.fault(0), 0);
        check.due("place in '" + text + "'", x.fault(1), -1);
    }

    private static void faultIs(String text, int fault, int place) {
        DebtorsHouse x = Check.persons(0);
        check.due("act of '" + text + "'", Check.act(x, text, 0), -1);
        check.due("fault of '" + text + "'", x.fault(0), fault);
        check.due("place in '" + text + "'", x.fault(1), place);
        check.due("acts by '" + text + "'", x.count(3), 0);
        check.due("the tape behind '" + text + "'", x.end(1), -1);
    }

    private static String times(int n, String text) {
        return text.repeat(n);
    }

    private static void goodTexts() {
        check.says("Term 2", "TEXT: {LINE}. LINE: TOPIC ['if' TEST {'and' TEST}] ':' (NUMBER | 'yes' | 'no') ';'.");
        check.says("Term 2", "TEST: ['not'] ('sum' | 'debts' | 'rank' | 'days' | 'children' | 'room' | 'hour' | 'coins') "
            + "('<' | '>' | '=') NUMBER.");
        String[] texts = {"", "held:no;", "held:yes;", "held:0;", "held:1;entry:2;", "held if sum<1:no;",
            "held if not sum<1:no;", "held if sum<1 and debts>2:no;", "held if sum<1 and not debts>2 and not rank=3:no;",
            "walk if hour>7 and hour<10:yes;", "opens if not coins=1 and not room=2 and not days=3 and not children=4:no;"};
        for (String text : texts) {
            textIsGood(text);
        }
        faultIs("held if:yes;", 1, 7);
        faultIs("held if sum>1 and:no;", 1, 17);
        faultIs("held if sum>1 if sum>2:no;", 1, 14);
        faultIs("held if sum>1 or sum>2:no;", 1, 14);
        faultIs("held and sum>1:no;", 1, 5);
        faultIs("held if not not sum>1:no;", 1, 12);
        faultIs("held if sum not>1:no;", 1, 12);
        faultIs("held if sum 1:no;", 1, 12);
        faultIs("held if sum>yes:no;", 1, 12);
        faultIs("held if sum>:no;", 1, 12);
        faultIs("held if sum;1:no;", 1, 11);
        faultIs("held if sum:1:no;", 1, 11);
        faultIs("held if 1>sum:no;", 1, 8);
        faultIs("held if sum<=1:no;", 1, 12);
        faultIs("held if sum==1:no;", 1, 12);
        faultIs("held if yes>1:no;", 1, 8);
        faultIs("held if held>1:no;", 1, 8);
        faultIs("held:", 1, 5);
        faultIs("held:maybe;", 1, 5);
        faultIs("held:not;", 1, 5);
        faultIs("held:sum;", 1, 5);
        faultIs("held::no;", 1, 5);
        faultIs("held:;", 1, 5);
        faultIs("held;", 1, 4);
        faultIs("held=1;", 1, 4);
        faultIs("held no;", 1, 5);
        faultIs("held:no:", 1, 7);
        faultIs("held:no no;", 1, 8);
        faultIs("held:no;;", 1, 8);
        faultIs(";", 1, 0);
        faultIs("5", 1, 0);
        faultIs("if", 1, 0);
        faultIs("sum:1;", 1, 0);
        faultIs("children:1;", 1, 0);
        faultIs("held:no;if", 1, 8);
    }

    private static void tokens() {
        check.says("Term 2", "TOKENS, as long as they go, blanks (10, 32) between:");
        String[] texts = {" ", "\n", "\n \n", " held : no ; ", "held\nif\nsum<1\nand not debts=2:00000;\n",
            "held if sum>1and debts<2:5;", "  held:no;", "held:no;    ", "held \n if \n not \n sum \n > \n 1 \n : \n 5 \n ; \n"};
        for (String text : texts) {
            textIsGood(text);
        }
        faultIs("heldif sum>1:no;", 1, 0);
        faultIs("held ifsum>1:no;", 1, 5);
        faultIs("held if notsum>1:no;", 1, 8);
        faultIs("held if sum>1anddebts<2:5;", 1, 13);
        faultIs("he ld:no;", 1, 0);
        faultIs("held:n o;", 1, 5);
        faultIs("held:1 2;", 1, 7);
        faultIs("helds:1;", 1, 0);
        faultIs("hel:1;", 1, 0);
        faultIs("heldz:1;", 1, 0);
        faultIs("heldaz:1;", 1, 0);
        faultIs("held:yess;", 1, 5);
        faultIs("held:ye;", 1, 5);
        faultIs(" \n  give:1;", 1, 4);
        check.says("Term 2", "WORDS, rows of letters a .. z; NUMBERS, 1 to 5 digits; signs : ; < > = one byte each.");
        textIsGood("entry:0;");
        textIsGood("entry:99999;");
        textIsGood("entry:00000;");
        textIsGood("held if sum>0 and sum<99999:12345;");
        faultIs("entry:123456;", 1, 6);
        faultIs("entry:000001;", 1, 6);
        faultIs("held if sum>123456:no;", 1, 12);
        faultIs("held if sum>000001:no;", 1, 12);
        faultIs("held if sum>99999:1;held if sum>9:z;", 1, 34);
        faultIs("abcdefghijklmnopqrstuvwxyz:1;", 1, 0);
        faultIs("held<no;", 1, 4);
        faultIs("held>no;", 1, 4);
    }

    private static void bytes() {
        check.says("Term 2", "TOKENS, as long as they go, blanks (10, 32) between:");
        for (int sign = 0; sign <= 255; sign++) {
            boolean blank = sign == 10 || sign == 32;
            String text = "held:no;" + (char) sign;
            if (blank) {
                textIsGood(text);
            } else {
                faultIs(text, 1, 8);
            }
        }
        for (int sign : new int[] {0, 9, 11, 13, 31, 33, 128 + 10, 128 + 32, 128 + ':', 255}) {
            faultIs("held" + (char) sign + ":no;", 1, 4);
            faultIs("held:no" + (char) sign + ";", 1, 7);
            faultIs((char) sign + "held:no;", 1, 0);
        }
        check.says("Term 2", "WORDS, rows of letters a .. z; NUMBERS, 1 to 5 digits; signs : ; < > = one byte each.");
        for (int sign : new int[] {'A', 'H', 'Z', '`', '{', '@', '[', 128 + 'h', '_', '-'}) {
            faultIs((char) sign + "eld:no;", 1, 0);
            faultIs("held" + (char) sign + ":no;", 1, 4);
        }
        for (int sign : new int[] {'/', '.', '-', '+', 128 + '1', 178}) {
            faultIs("entry:" + (char) sign + ";", 1, 6);
            faultIs("entry:1" + (char) sign + ";", 1, 7);
            faultIs("entry:" + (char) sign + "1;", 1, 6);
        }
        for (int sign : new int[] {',', '.', '!', '?', '&', 128 + ';', 128 + '<', 128 + '>', 128 + '='}) {
            faultIs("held if sum" + (char) sign + "1:no;", 1, 11);
            faultIs("held:no" + (char) sign, 1, 7);
        }
    }

    private static void whatNoTextGoesOnWith() {
        check.says("Term 2", "1 the first byte or token with which no text goes on (a longer row of digits is no token).");
        faultIs("give:1;", 1, 0);
        faultIs("held:no;give:1;", 1, 8);
        faultIs("held if give>1:x;", 1, 8);
        faultIs("held if sum>1,debts>123456:no;", 1, 13);
        faultIs("held:no;123456", 1, 8);
        faultIs("held:no;12345", 1, 8);
        faultIs("123456", 1, 0);
        faultIs("entry:" + times(594, "1"), 1, 6);
        faultIs("entry:1234567890;", 1, 6);
        faultIs("entry:99999if;", 1, 11);
    }

    private static void ends() {
        check.says("Term 2", "FAULTS, with places (a token's first byte; the end's):");
        String[] texts = {"held", "held ", "held   ", "held:", "held:no", "held:12345", "held:no;entry", "held if", "held if not",
            "held if sum", "held if sum<", "held if sum<1", "held if sum<1 and", "held:no;entry\n", "held if sum<1:5"};
        for (String text : texts) {
            faultIs(text, 1, text.length());
        }
        faultIs("\n\nhelp", 1, 2);
        faultIs("held if  sums>1:no;", 1, 9);
    }

    private static void fullTape() {
        check.says("Term 2", "THE TAPE has at most 600 bytes.");
        textIsGood(times(600, " "));
        textIsGood(times(592, "\n") + "held:no;");
        String line = "daily if not children<00001 and not sum>0:1;";
        textIsGood(times(13, line) + times(600 - 13 * line.length(), " "));
        faultIs(times(596, " ") + "held", 1, 600);
        faultIs(times(595, " ") + "held:", 1, 600);
        faultIs(times(599, " ") + "x", 1, 599);
        faultIs(times(600, "a"), 1, 0);
        faultIs(times(600, "7"), 1, 0);
        faultIs("held:no;" + times(592, "b"), 1, 8);
    }

    private static void aboveHundred() {
        check.says("Term 2", "If there is none, the first of: 2 a NUMBER that a LINE of number, worth or keep tells is above 100.");
        textIsGood("number:100;worth:100;keep:100;");
        textIsGood("number:0;worth:00100;keep:yes;number:no;");
        textIsGood("held:101;entry:101;daily:101;walk:101;buyer:101;opens:101;");
        textIsGood("held:99999;entry:99999;daily:99999;walk:99999;buyer:99999;opens:99999;");
        textIsGood("keep if sum>101 and coins=99999:100;");
        faultIs("number:101;", 2, 7);
        faultIs("worth:101;", 2, 6);
        faultIs("keep:101;", 2, 5);
        faultIs("keep:00101;", 2, 5);
        faultIs("keep:99999;", 2, 5);
        faultIs("number : 101;", 2, 9);
        faultIs("worth if sum=200:00101;", 2, 17);
        faultIs("keep:100;keep:99999;number:99999;", 2, 14);
        faultIs("held:101;keep:101;", 2, 14);
    }

    private static void oneTooMany() {
        check.says("Term 2", "3 one too many, at its first token: a 21st LINE, a 5th TEST of a LINE.");
        String lines = times(20, "held:no;");
        textIsGood(lines);
        textIsGood(lines + "\n ");
        faultIs(lines + "held:no;", 3, 160);
        faultIs(lines + "\nheld:no;", 3, 161);
        faultIs(lines + "held:no;held:no;", 3, 160);
        faultIs(times(66, "held:no;"), 3, 160);
        textIsGood("walk if sum=1 and sum=1 and sum=1 and sum=1:no;");
        textIsGood(times(12, "walk if sum=1 and sum=1 and sum=1 and sum=1:no;"));
        faultIs(FIVE, 3, 48);
        faultIs("walk if sum=1 and sum=1 and sum=1 and sum=1 and not sum=1:no;", 3, 48);
        faultIs("walk if sum=1 and sum=1 and sum=1 and sum=1 and\n  sum=1:no;", 3, 50);
        faultIs("walk if sum=1 and sum=1 and sum=1 and sum=1 and sum=1 and sum=1 and sum=1:no;", 3, 48);
        faultIs("held:no;" + FIVE, 3, 56);
        faultIs(FIVE + FIVE, 3, 48);
    }

    private static void firstFault() {
        check.says("Term 2", "If there is none, the first of: 2 a NUMBER that a LINE of number, worth or keep tells is above 100.");
        String lines = times(20, "held:no;");
        faultIs("keep:101;held", 1, 13);
        faultIs("keep:101;held:1!", 1, 15);
        faultIs("keep:101!", 1, 8);
        faultIs(FIVE + "x", 1, FIVE.length());
        faultIs("walk if sum=1 and sum=1 and sum=1 and sum=1 and sum=1 and:no;", 1, 57);
        faultIs("walk if sum=1 and sum=1 and sum=1 and sum=1 and 1:no;", 1, 48);
        faultIs(lines + "held:no;x", 1, 168);
        faultIs(lines + "held", 1, 164);
        faultIs(lines + "give:no;", 1, 160);
        faultIs(FIVE + "keep:101;", 3, 48);
        faultIs("keep:101;" + FIVE, 2, 5);
        faultIs("keep if sum=1 and sum=1 and sum=1 and sum=1 and sum=1:101;", 3, 48);
        faultIs(lines + "\nkeep:101;", 3, 161);
        faultIs(lines + FIVE, 3, 160);
        faultIs("keep:101;" + lines, 2, 5);
        faultIs(FIVE + lines, 3, 48);
    }

    private static void fault() {
        check.says("Promise 13", "Of the latest act(), what 0: the FAULT, 0 without, 1: its place, NONE without.");
        DebtorsHouse x = Check.persons(0);
        check.due("ahead of any", x.fault(0), 0);
        check.due("no place ahead of any", x.fault(1), -1);
        Check.act(x, "keep:101;", 0);
        check.due("a fault", x.fault(0), 2);
        check.due("its place", x.fault(1), 5);
        Check.feedText(x, 0, "held");
        x.day();
        check.due("it stays", x.fault(0), 2);
        check.due("its place stays", x.fault(1), 5);
        x.act(0);
        check.due("of the latest", x.fault(0), 1);
        check.due("its place there", x.fault(1), 4);
        Check.act(x, FIVE, 0);
        check.due("of a third kind", x.fault(0), 3);
        check.due("of a good text", Check.act(x, "", 0), 0);
        check.due("it has none", x.fault(0), 0);
        check.due("and no place", x.fault(1), -1);
        check.says("Promise 13", "NONE for another what.");
        Check.act(x, "x", 0);
        for (int what : new int[] {-1, 2, 3, LOW, HIGH}) {
            check.due("fault(" + what + ")", x.fault(what), -1);
        }
    }

    private static void good() {
        check.says("Promise 14", "The ACT that is GOOD on DAY d, AS KNOWN on DAY k.");
        check.says("Term 2", "GOOD on DAY d, AS KNOWN on DAY k: of the ACTS TOLD on k or earlier, good from d or earlier, "
            + "the one of the greatest number; none if there is none.");
        DebtorsHouse x = Check.persons(0);
        check.due("there is none", x.good(5, 5), -1);
        Check.act(x, "", 5);
        Check.act(x, "", 3);
        x.day();
        Check.act(x, "", 4);
        x.day();
        Check.act(x, "", 0);
        check.due("two are known on 0", x.good(5, 0), 1);
        check.due("one is good on 4", x.good(4, 0), 1);
        check.due("from 3 on", x.good(3, 0), 1);
        check.due("not on 2", x.good(2, 0), -1);
        check.due("three are known on 1", x.good(4, 1), 2);
        check.due("but not good on 3", x.good(3, 1), 1);
        check.due("none on 2 as known on 1", x.good(2, 1), -1);
        check.due("none on 0 as known on 1", x.good(0, 1), -1);
        check.due("four are known on 2", x.good(4, 2), 3);
        check.due("the last is good from 0 on", x.good(0, 2), 3);
        check.due("the last days", x.good(9999, 9999), 3);
        check.due("the first day known later", x.good(0, 9999), 3);
        check.due("the last day, known on the first", x.good(9999, 0), 1);
        check.says("Promise 14", "NONE: there is none, or a DAY that is not 0 .. 9999.");
        for (int day : new int[] {-1, 10000, LOW, HIGH}) {
            check.due("good(" + day + ", 3)", x.good(day, 3), -1);
            check.due("good(3, " + day + ")", x.good(3, day), -1);
        }
        DebtorsHouse y = Check.persons(0);
        check.due("without an act", y.good(0, 0), -1);
        Check.act(y, "", 9999);
        check.due("good from the last day on", y.good(9999, 0), 0);
        check.due("on no day ahead of it", y.good(9998, 9999), -1);
    }

    private static void tells() {
        check.says("Term 2", "if none does, or without an ACT: held 1, entry 0, daily 0, walk 0, number 50, worth 75, buyer 1, "
            + "keep 0, opens 1.");
        DebtorsHouse x = Check.persons(0, 5);
        int[] without = {1, 0, 0, 0, 50, 75, 1, 0, 1};
        for (int topic = 0; topic < 9; topic++) {
            check.due("without an act, " + topic, x.tells(0, topic, -1), without[topic]);
        }
        StringBuilder none = new StringBuilder();
        for (String topic : Model.TOPICS) {
            none.append(topic).append(" if coins=1:33;");
        }
        check.due("an empty act", x.act(0), 0);
        check.due("an act whose lines don't hold", Check.act(x, none.toString(), 0), 1);
        for (int topic = 0; topic < 9; topic++) {
            check.due("by an empty act, " + topic, x.tells(0, topic, 0), without[topic]);
            check.due("by lines that don't hold, " + topic, x.tells(0, topic, 1), without[topic]);
        }
        check.says("Promise 15", "What a TOPIC tells of a PERSON by an ACT (NONE: by that GOOD now).");
        Check.act(x, "entry:3;number:yes;worth:no;keep:00012;", 0);
        int[] with = {1, 3, 0, 0, 1, 0, 1, 12, 1};
        for (int topic = 0; topic < 9; topic++) {
            check.due("by act 2, " + topic, x.tells(1, topic, 2), with[topic]);
            check.due("by that good now, " + topic, x.tells(1, topic, -1), with[topic]);
        }
    }

    private static void tellsRefused() {
        check.says("Promise 15", "NONE: there is none such (of any).");
        DebtorsHouse x = Check.persons(0, 0);
        Check.act(x, "", 0);
        for (int topic : new int[] {-1, 9, LOW, HIGH}) {
            check.due("topic " + topic, x.tells(0, topic, -1), -1);
            check.due("topic " + topic + " by an act", x.tells(0, topic, 0), -1);
        }
        for (int person : new int[] {-1, 2, 12, LOW, HIGH}) {
            check.due("person " + person, x.tells(person, 0, -1), -1);
            check.due("person " + person + " by an act", x.tells(person, 0, 0), -1);
        }
        for (int act : new int[] {-2, 1, 3, 4, LOW, HIGH}) {
            check.due("act " + act, x.tells(0, 0, act), -1);
        }
        check.due("act 0 of none", Check.persons(0).tells(0, 0, 0), -1);
        x.image(0);
        Check.act(x, "", 0);
        check.due("act 1 is there", x.tells(0, 0, 1), 1);
        x.again(0);
        check.due("act 1 is not there again", x.tells(0, 0, 1), -1);
    }

    private static void topics() {
        check.says("Term 2", "TOPICS: 0 'held', 1 'entry', 2 'daily', 3 'walk', 4 'number', 5 'worth', 6 'buyer', 7 'keep', "
            + "8 'opens'.");
        String[] words = {"held", "entry", "daily", "walk", "number", "worth", "buyer", "keep", "opens"};
        int[] without = {1, 0, 0, 0, 50, 75, 1, 0, 1};
        for (int topic = 0; topic < 9; topic++) {
            DebtorsHouse x = Check.persons(0);
            check.due(words[topic], Check.act(x, words[topic] + ":88;", 0), 0);
            for (int other = 0; other < 9; other++) {
                check.due(words[topic] + " of " + other, x.tells(0, other, 0), topic == other ? 88 : without[other]);
            }
        }
    }

    /** Sum 107, debts 2, rank 1, days 3, children 4, room 2, hour 5, coins 6. */
    private static DebtorsHouse allDiffer() {
        DebtorsHouse x = new DebtorsHouse();
        x.person(6, 4);
        x.person(0, 0);
        x.debt(0, 1, 50, 1, 0, 0);
        x.debt(0, 1, 50, 2, 0, 0);
        x.costs(1, 7);
        x.hold(1, 0);
        x.room(0, 2);
        Check.days(x, 3);
        Check.hours(x, 5);
        x.image(0);
        return x;
    }

    private static void subjects() {
        check.says("Term 2", "(sum: what is DUE of all its LIVE DEBTS; debts: how many; rank: the least of them, 9 without; "
            + "days: how long it is HELD, room: both 0 if it is not; hour: that of now; coins.)");
        check.says("Term 2", "TEST: ['not'] ('sum' | 'debts' | 'rank' | 'days' | 'children' | 'room' | 'hour' | 'coins') "
            + "('<' | '>' | '=') NUMBER.");
        String[] words = {"sum", "debts", "rank", "days", "children", "room", "hour", "coins"};
        int[] facts = {107, 2, 1, 3, 4, 2, 5, 6};
        int[] idle = {0, 0, 9, 0, 0, 0, 5, 0};
        for (int s = 0; s < words.length; s++) {
            DebtorsHouse x = allDiffer();
            for (char sign : new char[] {'<', '>', '='}) {
                for (int number = facts[s] - 1; number <= facts[s] + 1; number++) {
                    boolean so = sign == '<' ? facts[s] < number : sign == '>' ? facts[s] > number : facts[s] == number;
                    String test = words[s] + sign + number;
                    x.again(0);
                    Check.act(x, "entry if " + test + ":6;", 0);
                    Check.act(x, "entry if not " + test + ":6;", 0);
                    check.due(test, x.tells(0, 1, 0), so ? 6 : 0);
                    check.due("not " + test, x.tells(0, 1, 1), so ? 0 : 6);
                }
            }
            x.again(0);
            Check.act(x, "entry if " + words[s] + "=" + idle[s] + ":6;", 0);
            check.due(words[s] + " of one who owes nothing", x.tells(1, 1, 0), 6);
        }
        DebtorsHouse x = allDiffer();
        Check.act(x, "entry if days=0:1;daily if room=0:2;walk if sum=50 and debts=1 and rank=1:3;", 0);
        x.tire(1, 0);
        x.leave(0);
        check.due("days of one who is not held any more", x.tells(0, 1, 0), 1);
        check.due("room of one who is not held any more", x.tells(0, 2, 0), 2);
        x.found(0, 51);
        x.pay(1, 57);
        check.due("live debts alone", x.tells(0, 3, 0), 3);
        DebtorsHouse y = Check.persons(0, 0);
        Check.act(y, "entry if days=0:1;entry if days=3:2;", 0);
        y.debt(0, 1, 1, 0, 0, 0);
        Check.days(y, 2);
        y.hold(1, 0);
        check.due("days from then on", y.tells(0, 1, -1), 1);
        Check.days(y, 3);
        check.due("three days held", y.tells(0, 1, -1), 2);
    }

    private static void firstLine() {
        check.says("Term 2", "A TOPIC tells of a PERSON: the NUMBER (yes 1, no 0) of the first LINE of it whose TESTS all hold;");
        DebtorsHouse x = Check.persons(7, 8, 9);
        Check.act(x, "walk:3;entry if coins=7:no;entry if coins<9:yes;entry:99999;entry:5;walk:4;", 0);
        check.due("no", x.tells(0, 1, 0), 0);
        check.due("yes", x.tells(1, 1, 0), 1);
        check.due("a number", x.tells(2, 1, 0), 99999);
        check.due("the first of another topic", x.tells(0, 3, 0), 3);
        StringBuilder text = new StringBuilder();
        for (int line = 1; line <= 20; line++) {
            text.append("entry if coins=").append(line).append(":").append(100 + line).append(";");
        }
        for (int coins = 0; coins <= 21; coins++) {
            DebtorsHouse y = Check.persons(coins);
            check.due("twenty lines", Check.act(y, text.toString(), 0), 0);
            check.due("line " + coins, y.tells(0, 1, 0), coins == 0 || coins == 21 ? 0 : 100 + coins);
        }
    }

    private static void tests() {
        check.says("Term 2", "A TOPIC tells of a PERSON: the NUMBER (yes 1, no 0) of the first LINE of it whose TESTS all hold;");
        DebtorsHouse x = new DebtorsHouse();
        int[][] persons = {{5, 5}, {4, 5}, {9, 5}, {5, 2}, {5, 7}};
        for (int[] p : persons) {
            x.person(p[0], p[1]);
        }
        Check.act(x, times(19, "held:1;") + "daily if coins>4 and coins<8 and children>3 and children<6:2;", 0);
        for (int p = 0; p < persons.length; p++) {
            check.due("of four tests each may fail, " + p, x.tells(p, 2, 0), p == 0 ? 2 : 0);
        }
        Check.act(x, "daily if not coins<5 and not coins>7 and not children<4 and not children>5:3;daily:4;", 0);
        for (int p = 0; p < persons.length; p++) {
            check.due("not, of each of four, " + p, x.tells(p, 2, 1), p == 0 ? 3 : 4);
        }
        Check.act(x, "daily if coins=00005 and coins<99999:1;", 0);
        check.due("five digits", x.tells(0, 2, 2), 1);
        check.due("one of two fails", x.tells(1, 2, 2), 0);
    }

    private static void tellsNow() {
        check.says("Promise 15", "What a TOPIC tells of a PERSON by an ACT (NONE: by that GOOD now).");
        DebtorsHouse x = Check.persons(0);
        Check.act(x, "entry:1;", 2);
        Check.act(x, "entry:2;", 1);
        Check.act(x, "entry:3;", 9);
        check.due("none is good yet", x.tells(0, 1, -1), 0);
        check.due("by one that is not good", x.tells(0, 1, 2), 3);
        x.day();
        check.due("act 1 on day 1", x.tells(0, 1, -1), 2);
        x.day();
        check.due("act 1 has the greater number on day 2", x.tells(0, 1, -1), 2);
        Check.days(x, 6);
        check.due("act 1 on day 8", x.tells(0, 1, -1), 2);
        x.day();
        check.due("act 2 on day 9", x.tells(0, 1, -1), 3);
        check.due("by act 0", x.tells(0, 1, 0), 1);
    }

    private static void lawful() {
        check.says("Promise 16", "LAWFUL.");
        check.says("Term 6", "LAWFUL was it to hold a PERSON on DAY d, AS KNOWN on DAY k: some DEBT of it was since d or earlier, "
            + "TOLD by k, and not ended on a DAY up to both;");
        DebtorsHouse x = Check.persons(1000, 0);
        check.due("no debt", x.lawful(0, 0, 0), false);
        Check.days(x, 5);
        x.debt(0, 1, 100, 1, 0, 2);
        check.due("since that day", x.lawful(0, 2, 5), true);
        check.due("not since the day ahead", x.lawful(0, 1, 5), false);
        check.due("nor since the first day", x.lawful(0, 0, 9999), false);
        check.due("not known on the day ahead", x.lawful(0, 2, 4), false);
        check.due("nor on the first day", x.lawful(0, 9999, 0), false);
        check.due("of the creditor", x.lawful(1, 2, 5), false);
        check.due("on the last day", x.lawful(0, 9999, 9999), true);
        x.costs(0, 5);
        Check.days(x, 2);
        x.pay(0, 105);
        check.due("ended on that day", x.lawful(0, 7, 7), false);
        check.due("ended after d", x.lawful(0, 6, 7), true);
        check.due("ended after k", x.lawful(0, 7, 6), true);
        check.due("ended after k, long ahead of d", x.lawful(0, 9999, 6), true);
        check.due("ended after d, long ahead of k", x.lawful(0, 6, 9999), true);
        check.due("ended ahead of both", x.lawful(0, 8, 8), false);
        x.debt(0, 1, 10, 1, 0, 7);
        x.debt(1, 0, 10, 1, 0, 7);
        x.least(1, 0, 0);
        x.compose(0, 0);
        check.due("forgiven today", x.lawful(0, 7, 7), false);
        x.debt(0, 1, 10000, 1, 0, 7);
        x.surrender(0);
        check.due("released today", x.lawful(0, 7, 7), false);
        check.due("of another one", x.lawful(1, 7, 7), true);
        DebtorsHouse y = Check.persons(1000, 0);
        y.debt(0, 1, 5, 0, 0, 0);
        y.pay(0, 5);
        check.due("begun, told and ended on the first day", y.lawful(0, 0, 0), false);
        y.debt(0, 1, 5, 0, 0, 0);
        check.due("told on the first day", y.lawful(0, 0, 0), true);
    }

    private static void lawfulRefused() {
        check.says("Promise 16", "False, too, if there is no such PERSON, or a DAY that is not 0 .. 9999.");
        DebtorsHouse x = Check.persons(0, 0);
        x.debt(0, 1, 5, 0, 0, 0);
        check.due("the first day", x.lawful(0, 0, 0), true);
        check.due("the last one", x.lawful(0, 9999, 9999), true);
        for (int person : new int[] {-1, 2, 12, LOW, HIGH}) {
            check.due("person " + person, x.lawful(person, 0, 0), false);
        }
        for (int day : new int[] {-1, 10000, LOW, HIGH}) {
            check.due("d " + day, x.lawful(0, day, 5), false);
            check.due("k " + day, x.lawful(0, 5, day), false);
        }
    }

    private static void lawfulFacts() {
        check.says("Term 6", "and held, by the ACT GOOD on d AS KNOWN on k, tells other than 0,");
        DebtorsHouse w = Check.persons(0, 0);
        w.debt(0, 1, 5, 0, 0, 0);
        Check.days(w, 4);
        Check.act(w, "held:no;", 3);
        check.due("the act is not known", w.lawful(0, 3, 3), true);
        check.due("the act is known", w.lawful(0, 3, 4), false);
        check.due("the act is not good", w.lawful(0, 2, 4), true);
        Check.act(w, "held:7;", 9);
        check.due("other than 0", w.lawful(0, 9, 4), true);
        check.due("by the one before", w.lawful(0, 8, 4), false);
        Check.act(w, "held:1;", 12);
        Check.act(w, "held:no;", 12);
        check.due("by the third act, as there is no day between", w.lawful(0, 11, 4), true);
        check.due("by the fourth act", w.lawful(0, 12, 4), false);
        check.says("Term 6", "with sum: the SUMS of such DEBTS, debts: how many, rank: the least;");
        DebtorsHouse x = new DebtorsHouse();
        x.person(30, 2);
        x.person(0, 0);
        Check.act(x, "held if sum=300 and debts=2 and rank=1:yes;held if sum=100 and debts=1 and rank=3:yes;held:no;", 0);
        x.debt(0, 1, 100, 3, 200, 0);
        x.costs(0, 9);
        Check.days(x, 4);
        x.debt(0, 1, 200, 1, 0, 3);
        check.due("both", x.lawful(0, 3, 4), true);
        check.due("the first alone, as it is known", x.lawful(0, 3, 3), true);
        check.due("the first alone, as it is since", x.lawful(0, 2, 4), true);
        x.pay(0, 20);
        check.due("their sums, not what is due", x.lawful(0, 4, 4), true);
        x.debt(0, 1, 1, 0, 0, 4);
        check.due("a third one", x.lawful(0, 4, 4), false);
        check.due("not on the day ahead", x.lawful(0, 3, 4), true);
        check.says("Term 6", "children and coins as they are; all else 0.");
        Check.act(x, "held if days>0:no;held if room>0:no;held if hour>0:no;held if children=2 and coins=10:yes;held:no;", 0);
        x.hold(1, 0);
        x.room(0, 3);
        x.day();
        x.hour();
        check.due("days, room and hour are 0", x.lawful(0, 4, 4), true);
        check.due("its coins", x.tell(0, 0), 10);
        x.pay(0, 1);
        check.due("coins as they are", x.lawful(0, 4, 4), false);
        DebtorsHouse y = Check.persons(0, 0);
        Check.act(y, "held if days=0 and room=0 and hour=0:yes;held:no;", 0);
        y.debt(0, 1, 100, 3, 0, 0);
        y.hold(1, 0);
        y.room(0, 3);
        y.day();
        y.hour();
        check.due("not by what it is now", y.tells(0, 0, 0), 0);
        check.due("but with 0 for days, room and hour", y.lawful(0, 0, 0), true);
    }
}
