/** THE TEXT: its bytes, its TOKENS and FAULT, the ITEMS and which of them is refused, all told anew. */
public final class TextTest {
    private static final Due DUE = new Due();

    /** What carriage() answers; a text that is not taken must change nothing. */
    private static void text(String why, String text, int want) {
        WarmNight x = new WarmNight();
        x.put(0, 7);
        x.man(1, 2, 3, 4, 5);
        x.plan(3, 2);
        Due.type(x, text);
        long before = x.digest();
        DUE.says(why + " \"" + text + "\"", x.carriage(), want);
        if (want < 0) DUE.says(why + " \"" + text + "\": nothing changes", x.digest(), before);
        DUE.says(why + ": THE TEXT stays", x.count(3), text.length());
    }

    private static void taken(String why, String text, int items) {
        text(why, text, items);
    }

    private static void fault(String why, String text, int place) {
        text("FAULT: " + why, text, -10 - place);
    }

    private static void item(String why, String text, int number) {
        text("refused: " + why, text, -1000 - number);
    }

    private static void bytes() {
        WarmNight x = new WarmNight();
        // The lowest n bytes, the highest of them first: "open 7; " and what is above does not come.
        DUE.says("type of 8", x.type(0x6f70656e20373b20L, 8), 8);
        DUE.says("type of 1", x.type(0x7777777777776fL, 1), 9);
        DUE.says("type of 7", x.type(0xff70656e2032333bL, 7), 16);
        DUE.says("the bytes came in their order", x.carriage(), 2);
        DUE.says("QUARTER 7", x.open(7, true), Due.NO);
        DUE.says("QUARTER 23", x.open(23, true), Due.NO);
        DUE.says("no other", x.open(2, true), 1);
        x.type(0xffL, 1);
        DUE.says("byte 255 begins no TOKEN", x.carriage(), -26);
        DUE.says("clear: how many it had", x.clear(), 17);
        DUE.says("clear of what is empty", x.clear(), 0);
        x.type(0, 8);
        DUE.says("byte 0 begins no TOKEN", x.carriage(), -10);
        DUE.says("a negative number", new WarmNight().type(-1, 8), 8);
        for (int b = 0; b < 256; b++) {
            boolean blank = b == 32;
            WarmNight y = new WarmNight();
            y.type(b, 1);
            // No TOKEN of one byte can stand first: a word is longer.
            DUE.says("a byte alone: " + b, y.carriage(), blank ? 0 : -10);
            y.clear();
            Due.type(y, "put");
            y.type(b, 1);
            Due.type(y, "0 5;");
            boolean figure = b >= '0' && b <= '9';
            boolean letter = b >= 'a' && b <= 'z';
            int due = blank ? 1 : letter ? -10 : -13;
            // b and 0 are one number then, which is a NUMBER's if it is 10 at most.
            if (figure) due = b == '0' ? 1 : -1000;
            if (b == '1') due = 1;
            if (b == '-') due = 1;
            DUE.says("a byte behind a word: " + b, y.carriage(), due);
        }
    }

    private static void full() {
        WarmNight x = new WarmNight();
        Due.type(x, " ".repeat(300));
        DUE.says("300 blanks", x.carriage(), 0);
        x.clear();
        Due.type(x, " ".repeat(292) + "put 0 5;");
        DUE.says("an ITEM at the end of 300 bytes", x.carriage(), 1);
        DUE.says("it is told", x.put(0, 4), 5);
        x.clear();
        Due.type(x, " ".repeat(293) + "put 0 5");
        DUE.says("300 bytes that end too early", x.carriage(), -310);
        x.clear();
        Due.type(x, " ".repeat(297) + "put");
        DUE.says("300 bytes that end with a word", x.carriage(), -310);
        x.clear();
        Due.type(x, "put 0 5;" + " ".repeat(291) + ";");
        DUE.says("a FAULT at the last of 300 bytes", x.carriage(), -309);
        x.clear();
        Due.type(x, "put 0 5" + " ".repeat(292) + ";");
        DUE.says("any number of blanks", x.carriage(), 1);
        x.clear();
        Due.type(x, "put0 2;".repeat(42) + "hang6;");
        DUE.says("as many ITEMS as find room", x.count(3), 300);
        DUE.says("as many ITEMS as find room", x.carriage(), 43);
        x.clear();
        // No ITEM is shorter than these; there are too few of them for 50 that would all be taken.
        StringBuilder text = new StringBuilder();
        for (int c = 0; c < 7; c++) text.append("hang").append(c).append(';');
        for (int q = 0; q < 10; q++) text.append("open").append(q).append(';');
        text.append("hang0;".repeat(33));
        Due.type(x, text.toString());
        DUE.says("50 ITEMS", x.count(3), 300);
        DUE.says("50 ITEMS, the first that is refused", x.carriage(), -1017);
    }

    /** What stood behind the end of THE TEXT ahead of a clear() is gone. */
    private static void cleared() {
        String[][] texts = {{"puts", "put", "-13"}, {"hang 0;", "hang 0", "-16"}, {"hang 12", "hang 1", "-16"},
            {"hang 1;hang 2;", "hang 1;", "1"}, {"hang 1; x", "hang 1; ", "1"}, {"put 0 -55", "put 0 -", "-16"}, {";", "", "0"}};
        for (String[] t : texts) {
            WarmNight x = Due.read(t[0]);
            x.clear();
            Due.type(x, t[1]);
            DUE.says("\"" + t[1] + "\" where \"" + t[0] + "\" was", x.carriage(), Integer.parseInt(t[2]));
        }
    }

    private static void blanks() {
        taken("empty", "", 0);
        taken("blanks alone", " ", 0);
        taken("blanks alone", "     ", 0);
        taken("blanks ahead of, between, behind", "   put   0   5   ;   hang   1   ;   ", 2);
        taken("no blank between a word and a number", "put0 5;", 1);
        taken("no blank between a word and a -", "cell-0 -1 0 0;", 1);
        taken("no blank about ;", "hang1;hang2;hang3;", 3);
        taken("one blank between two numbers", "man0 0 0 0 0;", 1);
        fault("no blank between two words", "hanghang 1;", 0);
        fault("a blank within a word", "ha ng 1;", 0);
        fault("a blank within a number is between two", "hang 0 1;", 7);
        fault("a blank behind a -", "cell 0 - 1 0 0;", 7);
        fault("no blank between two numbers", "cell 0 5-1 0 0;", 8);
        for (char c : new char[] {9, 10, 13, 0, 31, 33, 160, 255}) {
            fault("no blank but 32", c + "hang 1;", 0);
            fault("no blank but 32", "hang" + c + "1;", 4);
            fault("no blank but 32", "hang 1" + c + ";", 6);
            fault("no blank but 32", "hang 1;" + c, 7);
        }
    }

    private static void words() {
        String[] words = {"put", "cell", "pass", "hang", "cold", "help", "man", "coat", "break", "open"};
        String[] numbers = {" 0 2", " 0 0 0 0", " 0 0", " 0", " 0 1 0", " 0 0", " 0 0 0 0 0", " 0", " 0 0 0", " 0"};
        int[] count = {2, 4, 2, 1, 3, 2, 5, 1, 3, 1};
        for (int i = 0; i < words.length; i++) {
            String word = words[i];
            String item = word + numbers[i];
            if (word.equals("coat")) {
                item(word, item + ";", 0);
                taken(word, "man 0 0 0 0 0;" + item + ";", 2);
            } else {
                taken(word, item + ";", 1);
            }
            fault("one letter less", item.substring(1) + ";", 0);
            fault("one letter less", word.substring(0, word.length() - 1) + numbers[i] + ";", 0);
            fault("one letter more", "a" + item + ";", 0);
            fault("one letter more", word + "s" + numbers[i] + ";", 0);
            fault("another case", (char) (word.charAt(0) - 32) + word.substring(1) + numbers[i] + ";", 0);
            fault("another case behind", word.substring(0, word.length() - 1) + (char) (word.charAt(word.length() - 1) - 32)
                + numbers[i] + ";", 0);
            fault("the word alone", word, word.length());
            fault("the word and blanks alone", word + "  ", word.length() + 2);
            fault("the word and ;", word + ";", word.length());
            fault("no ;", item, item.length());
            fault("no ; but blanks", item + "  ", item.length() + 2);
            fault("a number too many", item + " 0;", item.length() + 1);
            fault("a number too few", word + " 0".repeat(count[i] - 1) + ";", word.length() + 2 * (count[i] - 1));
            fault("a number too few at the end", word + " 0".repeat(count[i] - 1), word.length() + 2 * (count[i] - 1));
            fault("a word for a number", word + " 0".repeat(count[i] - 1) + " put;", word.length() + 2 * count[i] - 1);
            fault("a word for ;", item + " put;", item.length() + 1);
            fault("a word for ;, no blank", item + "put;", item.length());
        }
        fault("a number first", "1;", 0);
        fault("a - first", "-", 0);
        fault("; first", ";", 0);
        fault("; first, behind blanks", "  ;", 2);
        fault("; twice", "hang 1;;", 7);
        fault("a word that is none, though long", "abcdefghijklmnopqrstuvwxyz", 0);
        fault("a word that is none, behind an ITEM", "hang 1; hung 2;", 8);
        fault("the word of a call that is no ITEM", "plan 0 1;", 0);
        fault("the word of a call that is no ITEM", "broken 0 0 0;", 0);
    }

    private static void numbers() {
        taken("one figure", "cold 0 1 7;", 1);
        taken("two figures", "cold 0 01 07;", 1);
        taken("three figures", "cold 000 024 100;", 1);
        taken("a - and three figures", "cold 0 1 -400;", 1);
        taken("-0 is 0", "hang -0;", 1);
        taken("-000 is 0", "hang -000;", 1);
        item("999", "put 4 999;", 0);
        item("-999", "cold 0 1 -999;", 0);
        fault("four figures", "cold 0 1 0001;", 9);
        fault("four figures, at the first", "put 0000 5;", 4);
        fault("four figures ahead of the end", "put 0 0005", 6);
        fault("four figures, no blank ahead", "put0000 5;", 3);
        fault("five figures", "cold 0 1 00012;", 9);
        fault("very many figures", "cold 0 1 " + "9".repeat(280) + ";", 9);
        fault("a - and four figures, at the -", "cold 0 1 -0001;", 9);
        fault("a - and very many figures", "cold 0 1 -" + "9".repeat(200) + ";", 9);
        fault("four figures for ;", "hang 1 2345;", 7);
        fault("four figures for a word", "1234", 0);
        fault("a - without figures", "cold 0 1 -;", 9);
        fault("a - without figures at the end", "cold 0 1 -", 9);
        fault("a - ahead of a word", "cold 0 1 -a;", 9);
        fault("a - twice", "cold 0 1 --5;", 9);
        fault("a - behind figures", "cold 0 1 5-;", 10);
        fault("a - for ;", "cold 0 1 5 -;", 11);
        fault("a - for ;, with a figure", "cold 0 1 5 -5;", 11);
        fault("a +", "cold 0 1 +5;", 9);
        fault("a byte that begins none behind figures", "cold 0 1 5.5;", 10);
        fault("a byte that begins none", "cold 0 1 /;", 9);
        fault("a byte that begins none", "cold 0 1 :;", 9);
        fault("letters behind figures", "cold 0 1 5a;", 10);
        fault("the first one", "cold 0 1 0001; ha 5; 12345", 9);
    }

    private static void refusedItems() {
        String[][] edges = {
            {"put 0 2;", "put 0 1;"}, {"put 0 8;", "put 0 9;"}, {"put 10 9;", "put 11 0;"}, {"put 0 2;", "put -1 2;"},
            {"put 3 24;", "put 3 25;"}, {"put 3 1;", "put 3 0;"}, {"put 4 200;", "put 4 201;"}, {"put 5 60;", "put 5 61;"},
            {"cell 7 0 0 0;", "cell 8 0 0 0;"}, {"cell 0 300 0 0;", "cell 0 301 0 0;"}, {"cell 0 -300 0 0;", "cell 0 -301 0 0;"},
            {"cell 0 0 50 0;", "cell 0 0 51 0;"}, {"cell 0 0 0 8;", "cell 0 0 0 9;"}, {"cell 0 0 0 0;", "cell 0 0 -1 0;"},
            {"cell 0 0 0 0;", "cell 0 0 0 -1;"}, {"cell 0 0 0 0;", "cell -1 0 0 0;"},
            {"pass 6 0;", "pass 7 0;"}, {"pass 0 40;", "pass 0 41;"}, {"pass 0 0;", "pass 0 -1;"}, {"pass 0 0;", "pass -1 0;"},
            {"hang 6;", "hang 7;"}, {"hang 0;", "hang -1;"},
            {"cold 23 1 0;", "cold 24 1 0;"}, {"cold 0 24 0;", "cold 0 25 0;"}, {"cold 0 1 0;", "cold 0 0 0;"},
            {"cold 0 1 200;", "cold 0 1 201;"}, {"cold 0 1 -400;", "cold 0 1 -401;"}, {"cold 23 24 0;", "cold -1 24 0;"},
            {"help 23 9;", "help 24 9;"}, {"help 0 9;", "help 0 10;"}, {"help 0 0;", "help 0 -1;"}, {"help 0 0;", "help -1 0;"},
            {"man 7 20 300 9 100;", "man 8 20 300 9 100;"}, {"man 0 20 0 0 0;", "man 0 21 0 0 0;"},
            {"man 0 0 300 0 0;", "man 0 0 301 0 0;"}, {"man 0 0 -300 0 0;", "man 0 0 -301 0 0;"},
            {"man 0 0 0 9 0;", "man 0 0 0 10 0;"}, {"man 0 0 0 0 100;", "man 0 0 0 0 101;"}, {"man 0 0 0 0 0;", "man 0 0 0 0 -1;"},
            {"man 0 0 0 0 0;", "man 0 0 0 -1 0;"}, {"man 0 0 0 0 0;", "man 0 -1 0 0 0;"}, {"man 0 0 0 0 0;", "man -1 0 0 0 0;"},
            {"break 23 7 50;", "break 24 7 50;"}, {"break 23 7 50;", "break 23 8 50;"}, {"break 23 7 50;", "break 23 7 51;"},
            {"break 0 0 0;", "break -1 0 0;"}, {"break 0 0 0;", "break 0 -1 0;"}, {"break 0 0 0;", "break 0 0 -1;"},
            {"open 23;", "open 24;"}, {"open 0;", "open -1;"}};
        for (String[] edge : edges) {
            taken("its edge", edge[0], 1);
            item("beyond its edge", edge[1], 0);
            item("beyond its edge, number 2", "help 0 1;" + edge[0] + edge[1] + "put 0 1;", 2);
        }
        item("HUNG twice", "hang 1;hang 1;", 1);
        item("a COAT twice", "man 0 0 0 0 0;coat 0;coat 0;", 2);
        item("a COAT for nobody", "coat 0;", 0);
        item("a COAT for nobody, though one of before would have it", "man 0 0 0 0 0;coat 1;", 1);
        item("a COAT ahead of its man", "coat 0;man 0 0 0 0 0;", 0);
        item("opened twice", "open 5;open 5;", 1);
        taken("8 PEOPLE", "man0 0 0 0 0;".repeat(8), 8);
        item("9 PEOPLE", "man0 0 0 0 0;".repeat(9), 8);
        taken("4 BREAKS", "break0 0 0;".repeat(4), 4);
        item("5 BREAKS", "break0 0 0;".repeat(5), 4);
        text("a FAULT comes ahead of a refused ITEM", "hang 9;hang", -21);
        text("a FAULT comes ahead of a refused ITEM", "hang 9;;", -17);
    }

    private static void toldAnew() {
        String all = "put 3 5;cell 1 -30 7 2;pass 6 40;hang 2;cold 22 24 -40;help 4 9;man 3 1 -2 3 4;coat 0;break 2 1 9;open 23;"
            + "put 3 6;cell 1 5 6 7;";
        WarmNight x = new WarmNight();
        for (int what = 0; what < 11; what++) x.put(what, 3);
        for (int c = 0; c < 8; c++) x.cell(c, 1, 2, 3);
        for (int c = 0; c < 7; c++) x.pass(c, 4);
        for (int c = 0; c < 7; c++) x.hang(c, true);
        x.cold(0, 24, 5);
        for (int q = 0; q < 24; q++) x.help(q, 6);
        for (int q = 0; q < 24; q++) x.open(q, true);
        for (int q = 0; q < 24; q++) x.plan(q, 1);
        for (int m = 0; m < 8; m++) x.man(m, m, m, m, m);
        for (int m = 0; m < 8; m++) x.coat(m, true);
        for (int i = 0; i < 4; i++) x.broken(i, i, i);
        x.image(0);
        long kept = x.digest();
        Due.type(x, all);
        DUE.says("how many ITEMS", x.carriage(), 12);
        WarmNight y = new WarmNight();
        y.put(3, 6);
        y.cell(1, 5, 6, 7);
        y.pass(6, 40);
        y.hang(2, true);
        y.cold(22, 2, -40);
        y.help(4, 9);
        y.man(3, 1, -2, 3, 4);
        y.coat(0, true);
        y.broken(2, 1, 9);
        y.open(23, true);
        Due.type(y, all);
        DUE.says("by these alone, in their order, else as at first (PLAN too)", x.digest(), y.digest());
        DUE.says("once more the same", x.carriage(), 12);
        DUE.says("once more the same", x.digest(), y.digest());
        DUE.says("IMAGES stay", x.from(0), 1);
        x.clear();
        DUE.says("IMAGES stay", x.digest(), kept);
        DUE.says("an empty TEXT tells all as at first", x.carriage(), 0);
        DUE.says("an empty TEXT tells all as at first", x.digest(), new WarmNight().digest());
        WarmNight z = new WarmNight();
        z.saved(0, 0);
        z.carriage();
        DUE.says("THE FRACTION stays", Due.fraction(z), "1 by 1");
    }

    public static void main(String[] args) {
        bytes();
        full();
        cleared();
        blanks();
        words();
        numbers();
        refusedItems();
        toldAnew();
        DUE.end();
    }
}
