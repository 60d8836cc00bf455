/** Promises 35 to 37: THE TAPE and its TEXTS. */
public final class TextsTest {
    private static final Due due = new Due();

    public static void main(String[] args) {
        feed();
        eggs();
        hensAndWorks();
        blanks();
        faults();
        numbers();
        ends();
        eachWord();
        places();
        fullTape();
        nothingChanges();
        due.end("TextsTest");
    }

    private static void feed() {
        HourEggs x = new HourEggs();
        due.is("35 n 0", x.feed(1, 0), Due.BEYOND);
        due.is("35 n 5", x.feed(1, 5), Due.BEYOND);
        due.is("35 n -1", x.feed(1, -1), Due.BEYOND);
        due.is("35 the highest first", x.feed(0xff656767, 3), 3);
        due.is("35 one", x.feed(0x12345620, 1), 4);
        due.is("35 two", x.feed(0x3737, 2), 6);
        due.is("48 bytes", x.count(5), 6);
        due.is("37 one ITEM", x.text(), 1);
        due.is("37 egg 77", x.of(0, 1), 77);
        due.is("37 THE TAPE is empty", x.count(5), 0);
        for (int i = 1; i <= 29; i++) {
            due.is("35 four", x.feed(0x20202020, 4), 4 * i);
        }
        due.is("35 three", x.feed(0x202020, 3), 119);
        due.is("35 FULL", x.feed(0x2020, 2), Due.FULL);
        due.is("35 BEYOND first", x.feed(0x2020, 5), Due.BEYOND);
        due.is("35 120", x.feed(0x20, 1), 120);
        due.is("35 FULL", x.feed(0x20, 1), Due.FULL);
        due.is("36 had", x.wipe(), 120);
        due.is("36 had none", x.wipe(), 0);
        due.is("35 again", x.feed(0xff, 1), 1);
        due.is("37 a byte of 255", x.text(), -1);
    }

    private static void eggs() {
        HourEggs x = new HourEggs();
        String text = "egg 1;leap 99 aged 99;warm 30 in 3;borrowed 40 aged 3 in 1;rotten 5 aged 0 in 0;wind 31;double 9 in 2";
        due.is("37 ITEMS", Due.text(x, text), 7);
        int[][] is = {{0, 1, 0, 0}, {1, 99, 99, 0}, {2, 30, 0, 3}, {3, 40, 3, 1}, {4, 5, 0, 0}, {5, 31, 0, 0}, {6, 9, 0, 2}};
        for (int p = 0; p < 7; p++) {
            for (int what = 0; what < 4; what++) {
                due.is("37 egg " + p + " " + what, x.of(p, what), is[p][what]);
            }
        }
        x.broken(2);
        due.is("37 the least empty PLACE", Due.text(x, "wind 3;wind 4"), 2);
        due.is("37 first", x.of(2, 1), 3);
        due.is("37 then", x.of(7, 1), 4);
    }

    private static void hensAndWorks() {
        HourEggs x = new HourEggs();
        x.hen(3, 1, 5);
        x.work(5, 1, 77);
        x.work(5, 2, 8);
        x.work(5, 3, 9);
        due.is("37 ITEMS", Due.text(x, "hen 3 30;work 5 999"), 2);
        due.is("EVERY", x.henOf(3, 0), 30);
        due.is("KIND is as it was", x.henOf(3, 1), 5);
        due.is("NEED", x.workOf(5, 0), 999);
        due.is("DUE is as it was", x.workOf(5, 1), 77);
        due.is("WORTH is as it was", x.workOf(5, 2), 8);
        due.is("GOT is as it was", x.workOf(5, 3), 9);
        due.is("37 due", Due.text(x, "work 5 0 due 99999"), 1);
        due.is("DUE", x.workOf(5, 1), 99999);
        due.is("WORTH", x.workOf(5, 2), 8);
        due.is("37 worth", Due.text(x, "work 5 1 worth 99"), 1);
        due.is("WORTH", x.workOf(5, 2), 99);
        due.is("37 due 0 worth 0", Due.text(x, "work 5 0 due 0 worth 0"), 1);
        due.is("NEED", x.workOf(5, 0), 0);
        due.is("DUE", x.workOf(5, 1), 0);
        due.is("WORTH", x.workOf(5, 2), 0);
        due.is("37 item by item", Due.text(x, "work 0 1 due 2 worth 3;work 0 4 worth 5;hen 0 1;hen 0 0"), 4);
        due.is("NEED", x.workOf(0, 0), 4);
        due.is("DUE", x.workOf(0, 1), 2);
        due.is("WORTH", x.workOf(0, 2), 5);
        due.is("EVERY", x.henOf(0, 0), 0);
    }

    private static void blanks() {
        HourEggs x = new HourEggs();
        due.is("37 no blanks", Due.text(x, "egg50aged8in1;hen0 3;work1 7due9worth8"), 3);
        due.is("AGE", x.of(0, 2), 8);
        due.is("NEST", x.of(0, 3), 1);
        due.is("WORTH", x.workOf(1, 2), 8);
        due.is("37 many blanks", Due.text(x, "  egg   5  ;  wind  6  in   3  "), 2);
        due.is("37 0 ahead", Due.text(x, "egg 00000099 aged 000 in 03"), 1);
        due.is("SIZE", x.of(3, 1), 99);
        due.is("37 only blanks", Due.text(x, "   "), -1 - 3);
        due.is("37 a tab is none", Due.text(x, "egg\t5"), -1 - 3);
        due.is("37 a line's end is none", Due.text(x, "egg 5\n"), -1 - 5);
    }

    private static void faults() {
        String[] texts = {
            "", "egg", "egg ", "eg 5", "eggs 5", "Egg 5", "egg -5", "egg 0", "egg 100", "egg five", "egg;", ";", "5",
            "egg 5 aged", "egg 5 aged 100", "egg 5 aged;", "egg 5 in", "egg 5 in 4", "egg 5 in 1 in 1",
            "egg 5 aged 1 aged 1", "egg 5 in 1 aged 1", "egg 5;", "egg 5; ", "egg 5;;egg 5", "egg 5 egg 5", "egg 5 5",
            "egg 5 due 5", "egg 5 old 5", "hen", "hen 4 1", "hen 0", "hen 0 31", "hen 0 ;", "hen 0 1 2", "hen x",
            "hen 0 1 in 2", "work", "work 6 1", "work 0", "work 0 1000", "work 0 1 due", "work 0 1 due 100000",
            "work 0 1 due 4294967296", "work 0 1 worth 100", "work 0 1 worth 1 due 1", "work 0 1 due 1 due 1",
            "work 0 1 aged 1", "work 0 1 worth 1 worth 1", "egg 5,egg 5", "egg 99999999999999999999", "hen01", "work0",
            "work 0 1worth", "in 1", "aged 1", "due 1", "worth 1", "egg 5;x", "egg 5 #", "#", "egg# 5", "egg 5aged#",
            "agg 5", "ten 0 1", "fork 0 1", "eggz 5", "egga 5", "egg{5", "egg`5", "egg 5:", "egg 5/", "egg 5\0",
            "egg 5\0egg", "\0", "egg 5<", "egg 9;egg 90;egg 900", "egg\u00e9", "workdue 0 1",
        };
        int[] faults = {
            0, 3, 4, 0, 0, 0, 4, 4, 4, 4, 3, 0, 0,
            10, 11, 10, 8, 9, 11,
            13, 11, 6, 7, 6, 6, 6,
            6, 6, 3, 4, 5, 6, 6, 8, 4,
            8, 4, 5, 6, 7, 12, 13,
            13, 15, 17, 15,
            9, 17, 5, 4, 5, 5,
            13, 0, 0, 0, 0, 6, 6, 0, 3, 9,
            0, 0, 0, 0, 0, 3, 3, 5, 5, 5,
            5, 0, 5, 17, 3, 0,
        };
        due.is("as many faults as texts", faults.length, texts.length);
        HourEggs x = new HourEggs();
        for (int i = 0; i < texts.length && i < faults.length; i++) {
            due.is("37 '" + texts[i] + "'", Due.text(x, texts[i]), -1 - faults[i]);
        }
        due.is("nothing is laid", x.count(1), 0);
        due.is("no finding", x.status(-1), 0);
    }

    /** Each NUMBER just inside its bounds, at them, and just outside: then it is the FAULT. */
    private static void numbers() {
        number("egg ", "", 1, 99);
        number("double ", " in 3", 1, 99);
        number("egg 5 aged ", "", 0, 99);
        number("egg 5 aged ", " in 2", 0, 99);
        number("egg 5 in ", "", 0, 3);
        number("egg 5 aged 9 in ", "", 0, 3);
        number("hen ", " 1", 0, 3);
        number("hen 3 ", "", 0, 30);
        number("work ", " 1", 0, 5);
        number("work 5 ", "", 0, 999);
        number("work 5 1 due ", "", 0, 99999);
        number("work 5 1 due ", " worth 1", 0, 99999);
        number("work 5 1 worth ", "", 0, 99);
        number("work 5 1 due 1 worth ", "", 0, 99);
    }

    private static void number(String ahead, String behind, int least, int most) {
        int[] inside = {least, least + 1, most - 1, most};
        for (int v : inside) {
            String text = ahead + v + behind;
            due.is("37 '" + text + "'", Due.text(new HourEggs(), text), 1);
        }
        String[] outside = {
            least == 0 ? "-1" : "0", "" + (most + 1), "" + (most + 256), "99999", "100000", "165536", "4294967296",
            "4294967297", "18446744073709551617", "x", ";", "", "#",
        };
        for (String v : outside) {
            if (v.equals("99999") && most == 99999) {
                continue;
            }
            String text = ahead + v + behind;
            // Without a NUMBER it is what comes then, behind one blank more, or the end.
            int fault = v.isEmpty() && behind.startsWith(" ") ? ahead.length() + 1 : ahead.length();
            if (v.isEmpty() && behind.equals(" 1")) {
                // Then 1 is the NUMBER, and the one behind it is not there.
                fault = text.length();
            }
            HourEggs x = new HourEggs();
            due.is("37 '" + text + "'", Due.text(x, text), -1 - fault);
            due.is("37 nothing changes", x.count(1) + x.henOf(3, 0) + x.workOf(5, 0), 0);
            due.is("48 THE TAPE is empty", x.count(5), 0);
        }
    }

    /** A TEXT that ends too early, at each of its TOKENS. */
    private static void ends() {
        String[] texts = {"egg 5 aged 4 in 3", "hen 1 2", "work 1 2 due 3 worth 4", "egg 5 ; hen 1 2", "wind 5 in 0"};
        String[][] whole = {{"egg 5", "egg 5 aged 4"}, {}, {"work 1 2", "work 1 2 due 3"}, {"egg 5"}, {"wind 5"}};
        for (int i = 0; i < texts.length; i++) {
            String[] tokens = texts[i].split(" ");
            String text = "";
            for (int k = 0; k + 1 < tokens.length; k++) {
                text += (k > 0 ? " " : "") + tokens[k];
                boolean isWhole = java.util.Arrays.asList(whole[i]).contains(text);
                due.is("37 '" + text + "'", Due.text(new HourEggs(), text), isWhole ? 1 : -1 - text.length());
                due.is("37 '" + text + "  '", Due.text(new HourEggs(), text + "  "), isWhole ? 1 : -3 - text.length());
            }
        }
    }

    /** Each WORD by one letter less, one more and another one. */
    private static void eachWord() {
        String[] words = {"egg", "leap", "warm", "borrowed", "rotten", "wind", "double"};
        for (int kind = 0; kind < words.length; kind++) {
            String word = words[kind];
            HourEggs x = new HourEggs();
            due.is("37 " + word, Due.text(x, word + "7"), 1);
            due.is("37 KIND of " + word, x.of(0, 0), kind);
            misspelt("", word, " 7");
        }
        misspelt("", "hen", " 1 1");
        misspelt("", "work", " 1 1");
        misspelt("egg 7 ", "aged", " 1");
        misspelt("egg 7 ", "in", " 1");
        misspelt("work 1 1 ", "due", " 1");
        misspelt("work 1 1 ", "worth", " 1");
    }

    private static void misspelt(String ahead, String word, String behind) {
        String[] others = {
            word.substring(1), word.substring(0, word.length() - 1), word + "s", word + word.charAt(word.length() - 1),
            word.charAt(0) + word, "x" + word.substring(1), word.substring(0, word.length() - 1) + "x", word + word,
        };
        due.is("37 '" + ahead + word + behind + "'", Due.text(new HourEggs(), ahead + word + behind), 1);
        for (String other : others) {
            String text = ahead + other + behind;
            due.is("37 '" + text + "'", Due.text(new HourEggs(), text), -1 - ahead.length());
        }
        String great = ahead + word.toUpperCase() + behind;
        due.is("37 '" + great + "'", Due.text(new HourEggs(), great), -1 - ahead.length());
    }

    /** TEXTS of 120 bytes, the last of which counts. */
    private static void fullTape() {
        String most = "hen 0 1;".repeat(14);
        due.is("37 120 bytes", Due.text(new HourEggs(), most + "hen 1 30"), 15);
        due.is("37 120 bytes, another one at the end", Due.text(new HourEggs(), most + "hen 1 3#"), -1 - 119);
        due.is("37 120 bytes, too early an end", Due.text(new HourEggs(), most + "hen 1 1;"), -1 - 120);
        due.is("37 120 bytes, a NUMBER too great", Due.text(new HourEggs(), most + "hen 1 31"), -1 - 118);
        due.is("37 120 bytes, a WORD at the end", Due.text(new HourEggs(), most + "hen 1 1x"), -1 - 119);
        due.is("37 120 bytes, blanks at the end", Due.text(new HourEggs(), most + "hen0 1  "), 15);
        due.is("37 120 blanks", Due.text(new HourEggs(), " ".repeat(120)), -1 - 120);
        HourEggs x = new HourEggs();
        due.is("37 119 bytes", Due.text(x, most + "hen 1 3"), 15);
        due.is("37 the last ITEM is so", x.henOf(1, 0), 3);
        Due.feed(x, most + "hen 1 30egg 5");
        due.is("35 what is FULL is not fed", x.count(5), 120);
        due.is("49 FULL", x.status(1), 5);
        due.is("37 as far as it was fed", x.text(), 15);
        due.is("37 the last byte counts", x.henOf(1, 0), 30);
        due.is("37 behind it THE TAPE takes again", x.feed('e', 1), 1);
        due.is("36 it had", x.wipe(), 1);
        due.is("36 it has none then", x.count(5), 0);
        due.is("37 no ITEM", x.text(), -1);
    }

    private static void places() {
        HourEggs x = new HourEggs();
        for (int i = 0; i < 6; i++) {
            x.egg(0, 1, 0);
        }
        due.is("37 no PLACE", Due.text(x, "egg 5;egg 6;egg 700"), -1 - 12);
        due.is("37 two PLACES", Due.text(x, "egg 5;hen 0 1;egg 6"), 3);
        due.is("37 none: it is the WORD, not what is behind it", Due.text(x, "wind#"), -1);
        due.is("37 none: a TOKEN ahead of it is first", Due.text(x, "hen 4 1;egg 5"), -1 - 4);
        due.is("37 none, hens can", Due.text(x, "hen 0 2"), 1);
        due.is("37 none", Due.text(x, "hen 0 3; egg"), -1 - 9);
        due.is("EVERY", x.henOf(0, 0), 2);
        HourEggs eight = new HourEggs();
        due.is("37 eight", Due.text(eight, "egg 1;".repeat(7) + "egg 8"), 8);
        due.is("the last one", eight.of(7, 1), 8);
        due.is("37 nine", Due.text(new HourEggs(), "egg 1;".repeat(8) + "egg 9"), -1 - 48);
        eight.broken(3);
        due.is("37 two in one PLACE", Due.text(eight, "leap 2; warm 3"), -1 - 8);
        due.is("37 neither is laid", eight.now(1), 247);
        due.is("37 one in one PLACE", Due.text(eight, "leap 2"), 1);
        due.is("37 it is laid there", eight.of(3, 0), 1);
    }

    private static void nothingChanges() {
        HourEggs x = new HourEggs();
        due.is("37 a FAULT", Due.text(x, "egg 5;hen 0 7;work 0 9 due 8 worth 7;double 0"), -1 - 44);
        due.is("no EGG", x.count(1), 0);
        due.is("no EVERY", x.henOf(0, 0), 0);
        due.is("no NEED", x.workOf(0, 0), 0);
        due.is("no DUE", x.workOf(0, 1), 99999);
        due.is("no WORTH", x.workOf(0, 2), 0);
        due.is("THE TAPE is empty", x.count(5), 0);
        due.is("37 behind a FAULT", Due.text(x, "egg 5"), 1);
        due.is("no finding", x.status(-1), 0);
    }
}
