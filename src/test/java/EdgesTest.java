/**
 * The edges that the document names, sentence by sentence: the least and the greatest that is still taken, and the one beyond on
 * either side; what is empty, what is full, and one more. All answers are worked out by hand.
 */
public final class EdgesTest {
    private static final int NONE = -1, NOT = -4;
    private static final String TWELVE_FADES = "fade 1" + ";fade 1".repeat(11);
    /** Desks 0 .. 7 in a row, desks 1 .. 7 lick. */
    private static final String[] LICKING_ROW = {
        "office 8;licks 1;licks 2;licks 3;licks 4;licks 5;licks 6;licks 7",
        "trail 0 1 0;trail 1 2 0;trail 2 3 0;trail 3 4 0;trail 4 5 0;trail 5 6 0;trail 6 7 0"};

    private static int wrong = 0;
    private static int asked = 0;

    public static void main(String[] args) {
        end(newObject());
        end(writing());
        end(numbersOfLines());
        end(desksOfLines());
        end(desksBehindOffice());
        end(tokens());
        end(signsBeside());
        end(blanks());
        end(linesOfText());
        end(lengthsOfText());
        end(trailsAndFilesOfText());
        end(linesInOrder());
        end(nothingLeft());
        end(toldDesks());
        end(toldTrailsAndFiles());
        end(kinds());
        end(minutesInAll());
        end(scentInMinutes());
        end(sweetnessInMinutes());
        end(wayOn());
        end(winters());
        end(queen());
        end(poured());
        end(rain());
        end(kept());
        end(later());
        end(filedOfTheNext200());
        end(queues());
        end(honeyInTime());
        end(honeyOfSweetness());
        end(honeyOfSets());
        end(smearInTime());
        end(smearOfTrails());
        end(quietWays());
        end(harms());
        end(worstDesks());
        end(seenSix());
        end(stampsByMinutes());
        end(crumbsAndOdds());
        end(counts());
        System.out.println(asked + " answers asked, " + wrong + " not as due");
        if (wrong != 0) System.exit(1);
    }

    private static void end(Due d) {
        wrong += d.wrong();
        asked += d.asked();
    }

    private static void faultOf(Due d, SugarStamps x, String text, int want) {
        Due.write(x, text);
        d.due("fault() of '" + text + "'", x.fault(), want);
        d.due("office() of '" + text + "'", Math.max(NOT, Math.min(1, x.office())), want == NONE ? 1 : NOT);
        d.due("erase() behind '" + text + "'", x.erase(), want == NONE ? 0 : text.length());
    }

    private static Due newObject() {
        Due d = new Due("1 a new object");
        SugarStamps x = new SugarStamps();
        Calls.due(d, x, "count(0) 2", "count(1) 0", "count(2) 0", "count(3) 1", "count(4) 0", "count(5) 0", "count(6) NONE", "count(7) 0",
                "count(8) 0", "count(9) 0", "desk(0, 0) 0", "desk(1, 0) 0", "desk(2, 0) UNKNOWN", "desk(-1, 0) UNKNOWN",
                "trail(0, 0) UNKNOWN", "file(0, 0) UNKNOWN", "back(0) NOT", "back(1) NOT", "odds(0, 0) NOT", "erase() 0", "forget() 0");
        // At first FADE is 1 and there is no WINTER.
        Calls.due(d, x, "'trail 0 1 5;file 0 1 3'", "next(0) 0", "go(1) 1", "trail(0, 2) 7", "file(0, 4) 0");
        return d;
    }

    private static Due writing() {
        Due d = new Due("2 write, 3 erase");
        SugarStamps x = new SugarStamps();
        Calls.due(d, x, "erase() 0", "write(0, 1) 1", "erase() 1", "count(9) 0", "write(0, 8) 8", "write(0, 0) OUTSIDE", "write(0, 9) OUTSIDE");
        for (int n = 1; n <= 8; n++) d.due("write(0, " + n + ")", x.write(0, n), 8 + n * (n + 1) / 2);
        Calls.due(d, x, "erase() 44");
        // The eighth byte is the topmost one, whose first bit is the sign; it is 249, no letter.
        Calls.due(d, x, "write(0x312065646166, 6) 6", "write(-504403158265495545, 8) 14", "fault() 6", "erase() 14");
        Calls.due(d, x, "write(0x30206E69616C70, 7) 7", "write(-6989586621679009793, 8) 15", "fault() 7", "erase() 15");
        // "plain 1 " and, in the eighth byte, a 9 that is too much; the ninth would be none.
        Calls.due(d, x, "write(0x39206E69616C7020, 8) 8", "fault() 7", "erase() 8", "write(0x39206E69616C7020, 7) 7", "fault() 7", "erase() 7");
        Calls.due(d, x, "write(0x312065646166, 6) 6", "office() 1", "write(0x31206564616620, 1) 1", "fault() 1", "erase() 1");
        for (int i = 1; i <= 24; i++) d.due("write", x.write(0x2020202020202020L, 8), 8 * i);
        Calls.due(d, x, "write(32, 8) 200", "write(32, 1) FULL", "write(32, 8) FULL", "count(9) 200", "erase() 200", "count(9) 0", "erase() 0");
        for (int i = 1; i <= 24; i++) x.write(0, 8);
        Calls.due(d, x, "write(0, 1) 193", "write(0, 8) FULL", "count(9) 193", "write(0, 7) 200", "write(0, 1) FULL", "count(9) 200");
        Calls.due(d, x, "erase() 200", "write(0, 8) 8");
        return d;
    }

    /** A word and a number from least to greatest; the number stands right behind one blank. */
    private static void numberOf(Due d, String ahead, int least, int greatest, String behind) {
        SugarStamps x = new SugarStamps();
        for (int v : new int[] {least, greatest}) {
            faultOf(d, x, ahead + v + behind, NONE);
            // An office tells all anew, also the trails and the files of the text ahead.
            Due.tell(x, "office 2");
        }
        for (int v : new int[] {least - 1, greatest + 1}) faultOf(d, x, ahead + v + behind, ahead.length());
        faultOf(d, x, ahead + "00" + least + behind, ahead.length());
        faultOf(d, x, ahead + "0" + greatest + behind, greatest < 10 ? NONE : ahead.length());
        faultOf(d, x, ahead, ahead.length());
        faultOf(d, x, ahead + ";fade 1", ahead.length());
        faultOf(d, x, ahead + "x" + behind, ahead.length());
    }

    private static Due numbersOfLines() {
        Due d = new Due("4 fault, numbers");
        numberOf(d, "office ", 2, 8, "");
        numberOf(d, "fade ", 0, 9, "");
        numberOf(d, "winter ", 0, 99, "");
        numberOf(d, "trail 0 1 ", 0, 99, "");
        numberOf(d, "file 0 1 ", 0, 9, "");
        numberOf(d, "plain ", 0, 1, "");
        numberOf(d, "licks ", 0, 1, "");
        numberOf(d, "stamps ", 0, 1, "");
        numberOf(d, "cellar ", 0, 1, "");
        numberOf(d, "office 8;plain ", 0, 7, "");
        numberOf(d, "office 8;licks ", 0, 7, "");
        numberOf(d, "office 8;stamps ", 0, 7, "");
        numberOf(d, "office 8;cellar ", 0, 7, "");
        numberOf(d, "office 8;trail ", 0, 7, " 1 5");
        numberOf(d, "office 8;trail 1 ", 0, 7, " 5");
        numberOf(d, "office 8;file ", 0, 7, " 1 5");
        numberOf(d, "office 8;file 1 ", 0, 7, " 5");
        // What is taken is what was written.
        SugarStamps x = Due.told("office 8;fade 9;winter 99;trail 7 0 99;trail 0 7 0;file 7 0 9;file 0 7 0");
        Calls.due(d, x, "count(0) 8", "count(3) 9", "count(4) 99", "trail(0, 0) 7", "trail(0, 1) 0", "trail(0, 2) 99", "trail(1, 0) 0",
                "trail(1, 1) 7", "trail(1, 2) 0", "file(0, 0) 7", "file(0, 1) 0", "file(0, 2) 9", "file(1, 0) 0", "file(1, 1) 7", "file(1, 2) 0");
        Calls.due(d, x, "'office 02;fade 00;winter 09;trail 01 00 90;file 00 01 08'", "count(0) 2", "count(3) 0", "count(4) 9",
                "trail(0, 0) 1", "trail(0, 1) 0", "trail(0, 2) 90", "file(0, 2) 8");
        return d;
    }

    private static Due desksOfLines() {
        Due d = new Due("4 fault, A and B unlike");
        SugarStamps x = new SugarStamps();
        for (String word : new String[] {"trail", "file"}) {
            int b = word.length() + 3;
            faultOf(d, x, word + " 0 0 5", b);
            faultOf(d, x, word + " 1 1 5", b);
            faultOf(d, x, word + " 1 01 5", b);
            faultOf(d, x, word + " 01 1 5", b + 1);
            // The first token of a line that cannot stand there, not the last one.
            faultOf(d, x, word + " 2 2 5", b - 2);
            faultOf(d, x, word + " 0 2 100", b);
            faultOf(d, x, word + " 0 0", b);
            faultOf(d, x, word + " 0", b - 1);
            faultOf(d, x, word + " 0 ", b);
            faultOf(d, x, word + " 0 1", b + 1);
            faultOf(d, x, word + " 0 1 5 5", b + 4);
            faultOf(d, x, word + " 0 1 5", NONE);
            faultOf(d, x, word + " 1 0 5", NONE);
        }
        faultOf(d, x, "office 8;trail 7 7 5", 17);
        faultOf(d, x, "office 8;file 7 7 5", 16);
        return d;
    }

    private static Due desksBehindOffice() {
        Due d = new Due("4 fault, desks that there are behind the lines ahead");
        SugarStamps x = new SugarStamps();
        faultOf(d, x, "plain 2", 6);
        faultOf(d, x, "office 3;plain 2", NONE);
        // Told by an earlier text.
        faultOf(d, x, "plain 2", NONE);
        faultOf(d, x, "plain 3", 6);
        faultOf(d, x, "plain 3;office 4", 6);
        faultOf(d, x, "office 4;plain 3;office 3;plain 3", 32);
        faultOf(d, x, "office 2;plain 2", 15);
        // A text with a fault told nothing.
        faultOf(d, x, "plain 2", NONE);
        faultOf(d, x, "office 2;trail 2 0 1", 15);
        faultOf(d, x, "office 2;trail 0 2 1", 17);
        faultOf(d, x, "office 2;file 2 0 1", 14);
        faultOf(d, x, "office 2;file 0 2 1", 16);
        faultOf(d, x, "trail 0 2 1;file 2 0 1", NONE);
        faultOf(d, x, "office 2", NONE);
        faultOf(d, x, "plain 2", 6);
        return d;
    }

    private static Due tokens() {
        Due d = new Due("4 fault, tokens");
        SugarStamps x = new SugarStamps();
        String[] words = {"office", "plain", "licks", "stamps", "cellar", "trail", "file", "fade", "winter"};
        for (String word : words) {
            boolean pair = word.equals("trail") || word.equals("file");
            String numbers = pair ? "1 0 7" : word.equals("office") ? "2" : "1";
            faultOf(d, x, word + numbers, NONE);
            faultOf(d, x, word + " " + numbers + " ; " + word + numbers, NONE);
            faultOf(d, x, word, word.length());
            faultOf(d, x, word + " ", word.length() + 1);
            faultOf(d, x, word.substring(1) + " " + numbers, 0);
            faultOf(d, x, word.substring(0, word.length() - 1) + " " + numbers, 0);
            faultOf(d, x, word + "s " + numbers, 0);
            for (int i = 0; i < word.length(); i++) faultOf(d, x, word.substring(0, i) + "x" + word.substring(i + 1) + " " + numbers, 0);
            faultOf(d, x, word + word + " " + numbers, 0);
            faultOf(d, x, word + " " + word + " " + numbers, word.length() + 1);
            faultOf(d, x, word.substring(0, 2) + " " + word.substring(2) + " " + numbers, 0);
            faultOf(d, x, word.substring(0, 1).toUpperCase() + word.substring(1) + " " + numbers, 0);
            faultOf(d, x, word + " " + numbers + " " + word, word.length() + numbers.length() + 2);
            faultOf(d, x, word + " " + numbers + word, word.length() + numbers.length() + 1);
            faultOf(d, x, word + " " + numbers + " 1", word.length() + numbers.length() + 2);
            faultOf(d, x, numbers + " " + word, 0);
            Due.tell(x, "office 2");
        }
        // Between two numbers a blank is needed: else they are one.
        faultOf(d, x, "trail 01 5", 9);
        faultOf(d, x, "trail01 00 5", NONE);
        faultOf(d, x, "trail 0 1 5file 0 1 5", 11);
        faultOf(d, x, "trail 0 1 5;file 0 1 5;fade2", NONE);
        faultOf(d, x, "z 1", 0);
        faultOf(d, x, "fadez1", 0);
        return d;
    }

    /** The bytes beside a .. z, 0 .. 9, the blank and ; are tokens of their own, and so are those above 127. */
    private static Due signsBeside() {
        Due d = new Due("4 fault, bytes");
        SugarStamps x = new SugarStamps();
        for (int sign : new int[] {0, 9, 10, 13, 31, 33, 44, 46, 47, 58, 60, 64, 65, 90, 91, 96, 123, 127, 128, 160, 187, 225, 255}) {
            String s = String.valueOf((char) sign);
            faultOf(d, x, s, 0);
            faultOf(d, x, " " + s, 1);
            faultOf(d, x, s + "fade 1", 0);
            faultOf(d, x, "fade" + s + " 1", 4);
            faultOf(d, x, "fade" + s + "1", 4);
            faultOf(d, x, "fade " + s + "1", 5);
            faultOf(d, x, "fade 1" + s, 6);
            faultOf(d, x, "fade 1 " + s, 7);
            faultOf(d, x, "fade 1" + s + "fade 1", 6);
            faultOf(d, x, "fade 1;" + s, 7);
            faultOf(d, x, "trail 0" + s + "1 5", 7);
        }
        for (char letter = 'a'; letter <= 'z'; letter++) {
            faultOf(d, x, letter + "fade 1", 0);
            faultOf(d, x, "fade" + letter + " 1", 0);
            faultOf(d, x, "fade " + letter + " 1", 5);
            faultOf(d, x, "fade 1" + letter, 6);
        }
        for (int digit = 0; digit <= 9; digit++) {
            faultOf(d, x, digit + "fade 1", 0);
            faultOf(d, x, "fade" + digit, NONE);
            d.due("count(3)", x.count(3), digit);
            faultOf(d, x, "winter " + digit + digit, NONE);
            d.due("count(4)", x.count(4), 11 * digit);
            faultOf(d, x, "winter 1" + digit + "0", 7);
        }
        return d;
    }

    private static Due blanks() {
        Due d = new Due("4 fault, blanks");
        SugarStamps x = new SugarStamps();
        faultOf(d, x, "   fade   1   ;   trail   0   1   5   ", NONE);
        faultOf(d, x, "fade1;trail0 1 5", NONE);
        faultOf(d, x, "fa de 1", 0);
        faultOf(d, x, "winter 1 2", 9);
        faultOf(d, x, " ", 1);
        faultOf(d, x, "  ;fade 1", 2);
        faultOf(d, x, "fade 1;  ", 9);
        faultOf(d, x, "fade 1;  ;", 9);
        faultOf(d, x, "fade   ", 7);
        faultOf(d, x, " ".repeat(200), 200);
        faultOf(d, x, " ".repeat(194) + "fade 2", NONE);
        d.due("count(3)", x.count(3), 2);
        return d;
    }

    private static Due linesOfText() {
        Due d = new Due("4 fault, 5 office: 1 to 12 lines");
        SugarStamps x = new SugarStamps();
        faultOf(d, x, "", 0);
        for (int lines = 1; lines <= 12; lines++) {
            Due.write(x, "fade 1" + ";fade 1".repeat(lines - 1));
            d.due("fault() of " + lines + " lines", x.fault(), NONE);
            d.due("office() of " + lines + " lines", x.office(), lines);
        }
        faultOf(d, x, "fade 1" + ";fade 1".repeat(10) + ";", 77);
        faultOf(d, x, "fade 1" + ";fade 1".repeat(10) + ";fade", 81);
        faultOf(d, x, "fade 1" + ";fade 1".repeat(10) + ";fades 1", 77);
        faultOf(d, x, "fade 1" + ";fade 1".repeat(10) + ";fade 10", 82);
        // Behind the twelfth line.
        faultOf(d, x, TWELVE_FADES + "   ", NONE);
        faultOf(d, x, TWELVE_FADES + ";", 83);
        faultOf(d, x, TWELVE_FADES + "  ;", 85);
        faultOf(d, x, TWELVE_FADES + ";fade 1", 83);
        faultOf(d, x, TWELVE_FADES + ";;", 83);
        faultOf(d, x, TWELVE_FADES + " 1", 84);
        faultOf(d, x, TWELVE_FADES + "0", 82);
        faultOf(d, x, TWELVE_FADES + "00", 82);
        faultOf(d, x, TWELVE_FADES + "fade 1", 83);
        faultOf(d, x, TWELVE_FADES + ":", 83);
        // Empty lines.
        faultOf(d, x, ";", 0);
        faultOf(d, x, ";;", 0);
        faultOf(d, x, ";fade 1", 0);
        faultOf(d, x, "fade 1;;fade 1", 7);
        faultOf(d, x, "fade 1;", 7);
        return d;
    }

    private static Due lengthsOfText() {
        Due d = new Due("4 fault, 5 office: a full text");
        SugarStamps x = new SugarStamps();
        String trails = "trail 00 01 99" + ";trail 00 01 99".repeat(11);
        Due.write(x, trails + " ".repeat(21));
        Calls.due(d, x, "count(9) 200", "write(59, 1) FULL", "fault() NONE", "office() 12", "count(9) 0", "count(1) 12", "trail(11, 2) 99");
        Due.write(x, "fade 3;" + " ".repeat(186) + "fade 10");
        Calls.due(d, x, "count(9) 200", "fault() 198", "office() NOT", "count(9) 200", "count(3) 1", "erase() 200");
        Due.write(x, "fade 3;" + " ".repeat(187) + "fade 7");
        Calls.due(d, x, "count(9) 200", "fault() NONE", "office() 2", "count(3) 7");
        Due.write(x, "fade 3;" + " ".repeat(189) + "fade");
        Calls.due(d, x, "count(9) 200", "fault() 200", "erase() 200");
        Due.write(x, "fade 3" + " ".repeat(193) + ";");
        Calls.due(d, x, "count(9) 200", "fault() 200", "erase() 200");
        Due.write(x, "fade 3" + " ".repeat(193) + "0");
        Calls.due(d, x, "count(9) 200", "fault() 199", "erase() 200", "fault() 0", "count(3) 7");
        // The byte too many would have mended it.
        Due.write(x, " ".repeat(195) + "fade ");
        Calls.due(d, x, "fault() 200", "write(0x31, 1) FULL", "fault() 200", "office() NOT");
        return d;
    }

    private static Due trailsAndFilesOfText() {
        Due d = new Due("4 fault, a thirteenth trail, a seventh file");
        SugarStamps x = new SugarStamps();
        faultOf(d, x, "trail 0 1 9" + ";trail 0 1 9".repeat(10), NONE);
        faultOf(d, x, "trail 1 0 8;trail 0 1 7", 12);
        // At its word, whatever stands behind it.
        faultOf(d, x, "trail 1 0 8;trail", 12);
        faultOf(d, x, "trail 1 0 8; trail 7 7 100", 13);
        faultOf(d, x, "trail 1 0 8", NONE);
        Calls.due(d, x, "count(1) 12", "trail(11, 0) 1", "trail(11, 1) 0", "trail(11, 2) 8", "trail(12, 0) UNKNOWN");
        faultOf(d, x, "trail 0 1 1", 0);
        faultOf(d, x, "fade 2;trail 0 1 1", 7);
        faultOf(d, x, "file 0 1 1" + ";file 0 1 1".repeat(6), 66);
        faultOf(d, x, "file 0 1 1" + ";file 0 1 1".repeat(4), NONE);
        faultOf(d, x, "file 1 0 2;file 0 1 1", 11);
        faultOf(d, x, "file 1 0 2;file", 11);
        faultOf(d, x, "file 1 0 2", NONE);
        Calls.due(d, x, "count(2) 6", "file(5, 0) 1", "file(5, 1) 0", "file(5, 2) 2", "file(6, 0) UNKNOWN", "count(1) 12");
        faultOf(d, x, "file 0 1 1", 0);
        faultOf(d, x, "file", 0);
        faultOf(d, x, "trail 0 1 1;file 0 1 1", 0);
        // An office makes room for twelve and for six again; so it does for eleven behind it in one text.
        faultOf(d, x, "office 2;trail 0 1 9" + ";trail 0 1 9".repeat(10), NONE);
        Calls.due(d, x, "count(1) 11", "count(2) 0");
        faultOf(d, x, "file 0 1 1" + ";file 0 1 1".repeat(5) + ";trail 0 1 1;trail 0 1 1", 78);
        faultOf(d, x, "file 0 1 1" + ";file 0 1 1".repeat(5) + ";trail 0 1 1", NONE);
        Calls.due(d, x, "count(1) 12", "count(2) 6");
        faultOf(d, x, "trail 0 1 1;office 2", 0);
        faultOf(d, x, "office 2;trail 0 1 1;file 0 1 1", NONE);
        Calls.due(d, x, "count(1) 1", "count(2) 1");
        return d;
    }

    private static Due linesInOrder() {
        Due d = new Due("5 office, lines in their order");
        SugarStamps x = new SugarStamps();
        Calls.due(d, x, "'fade 3;fade 4;licks 1;stamps 1;winter 7;winter 6'", "count(3) 4", "desk(1, 0) 2", "count(4) 6");
        // Office: all else as at first.
        Calls.due(d, x, "'licks 0;fade 5;winter 8;trail 0 1 3;file 0 1 3;office 2'", "count(0) 2", "count(1) 0", "count(2) 0", "count(3) 1",
                "count(4) 0", "desk(0, 0) 0", "desk(1, 0) 0");
        Calls.due(d, x, "'office 3;fade 5;cellar 2;office 3;fade 6'", "count(3) 6", "desk(2, 0) 0");
        // What earlier texts told stays, as told; what went on since then does not.
        Calls.due(d, x, "'trail 0 1 50;file 0 1 3;winter 2'", "go(2) 2", "count(4) 0", "trail(0, 2) 38", "stamp(0, 9) 3", "spill(0, 1) 38",
                "sit(2) NONE", "'fade 6'", "count(0) 3", "count(4) 2", "count(5) 0", "count(6) NONE", "trail(0, 2) 50", "file(0, 2) 3");
        Calls.due(d, x, "go(3) 3", "file(0, 3) 0", "file(0, 4) 2", "'plain 0'", "file(0, 0) 0", "file(0, 3) NONE", "file(0, 4) NONE",
                "count(7) 0", "filed(0) 2");
        // Nothing is SEEN, no CRUMBS are told, nothing is kept: behind a text, not behind one with a fault.
        Calls.due(d, x, "seen(0, 0, 0) 1", "crumbs(0, 9) 0", "keep(0) 0", "keep(1) 0", "office() NOT", "count(8) 1", "odds(0, 1) 1",
                "back(0) 0", "back(1) 0", "'plain 0'", "count(8) 0", "odds(0, 1) NOT", "back(0) NOT", "back(1) NOT", "crumbs(0, 1) 0");
        return d;
    }

    /** Behind an office nothing is left of the trails and files that there were. */
    private static Due nothingLeft() {
        Due d = new Due("5 office, all else as at first");
        String[] many = {"office 3;trail 0 1 0" + ";trail 0 1 0".repeat(10), "trail 1 2 0;file 0 1 5" + ";file 0 1 9".repeat(5)};
        SugarStamps x = Due.told(many);
        Calls.due(d, x, "quiet(0, 2) 2", "desk(0, 2) 11", "go(1) 1", "count(7) 2", "'office 3;trail 0 2 3;file 0 1 4'", "quiet(0, 1) NONE",
                "quiet(1, 2) NONE", "desk(0, 1) 1", "desk(0, 2) 1", "desk(1, 2) 0", "queue(0, 0) 1", "next(0) 0", "count(7) 0", "go(1) 1",
                "file(0, 0) 2", "next(0) 0", "rain() 1", "trail(1, 2) UNKNOWN", "file(1, 0) UNKNOWN", "worst(9) 0", "harm(1, 9) 100",
                "smear(0, 9, 0) NONE", "honey(1, 9, NONE) NONE", "honey(2, 9, NONE) UNKNOWN", "seen(1, 0, 0) UNKNOWN", "count(5) 1");
        x = Due.told(many);
        Calls.due(d, x, "'office 3'", "rain() 0", "quiet(0, 1) NONE", "desk(0, 1) 0", "desk(0, 2) 0", "go(99) 99", "count(7) 0", "queue(0, 99) 0",
                "honey(0, 1, NONE) 0", "honey(1, 1, NONE) UNKNOWN", "worst(1) 0");
        return d;
    }

    private static Due toldDesks() {
        Due d = new Due("6 desk");
        SugarStamps x = Due.told("office 8;licks 7;stamps 6;cellar 5;trail 7 0 1;trail 7 0 1;trail 6 7 1;file 7 0 1", "file 7 0 2;file 7 1 3;file 7 2 4;file 7 3 5;file 7 4 6");
        Calls.due(d, x, "desk(0, 0) 0", "desk(0, 1) 0", "desk(0, 2) 2", "desk(7, 0) 1", "desk(6, 0) 2", "desk(5, 0) 3", "desk(7, 1) 63", "desk(7, 2) 3", "desk(5, 2) 0",
                "desk(8, 0) UNKNOWN", "desk(-1, 0) UNKNOWN", "desk(7, 3) OUTSIDE", "desk(7, -1) OUTSIDE");
        x = Due.told("trail 0 1 9" + ";trail 1 0 9".repeat(11));
        Calls.due(d, x, "desk(0, 2) 12", "desk(1, 2) 12", "desk(2, 2) UNKNOWN");
        // All that are there, FILED or not; the queue is of those that are not.
        x = Due.told("office 3;trail 0 1 0;file 0 1 5;file 1 2 0;file 0 1 4");
        Calls.due(d, x, "desk(1, 1) 2", "go(2) 2", "count(7) 5", "desk(1, 1) 7", "queue(1, 0) 1", "desk(0, 1) 0", "queue(0, 0) 0");
        return d;
    }

    private static Due toldTrailsAndFiles() {
        Due d = new Due("7 trail, 8 file");
        SugarStamps x = Due.told("office 3;trail 0 1 0" + ";trail 2 1 99".repeat(10), "trail 1 2 7;file 0 1 0;file 1 2 9;file 2 0 1;file 2 1 5",
                "file 0 2 8;file 1 0 4");
        Calls.due(d, x, "trail(0, 0) 0", "trail(0, 1) 1", "trail(0, 2) 0", "trail(10, 0) 2", "trail(10, 2) 99", "trail(11, 0) 1", "trail(11, 1) 2",
                "trail(11, 2) 7", "trail(12, 2) UNKNOWN", "trail(-1, 0) UNKNOWN", "trail(11, -1) OUTSIDE", "trail(11, 3) OUTSIDE");
        Calls.due(d, x, "file(0, 0) 0", "file(0, 1) 1", "file(0, 2) 0", "file(0, 3) NONE", "file(0, 4) NONE", "file(5, 0) 1", "file(5, 1) 0",
                "file(5, 2) 4", "file(5, 3) NONE", "file(5, 4) NONE", "file(6, 0) UNKNOWN", "file(-1, 0) UNKNOWN", "file(5, -1) OUTSIDE",
                "file(5, 5) OUTSIDE");
        // The last trail and the last file as answers.
        Calls.due(d, x, "'office 2;trail 0 1 1" + ";trail 0 1 1".repeat(10) + "'", "'trail 0 1 2;file 0 1 1'", "next(0) 11", "go(1) 1",
                "file(0, 3) 11", "file(0, 4) 0", "desk(1, 1) 1", "desk(0, 1) 0");
        return d;
    }

    private static Due kinds() {
        Due d = new Due("9 as");
        SugarStamps x = Due.told("office 8;licks 5;stamps 6;cellar 7");
        Calls.due(d, x, "as(0, 0) 5", "as(0, 1) 5", "as(0, 2) NOT", "as(0, 3) NOT", "as(0, 4) NOT");
        Calls.due(d, x, "as(5, 0) 4", "as(5, 1) 4", "as(5, 2) 4", "as(5, 3) NOT", "as(5, 4) NOT");
        Calls.due(d, x, "as(6, 0) 6", "as(6, 1) 6", "as(6, 2) NOT", "as(6, 3) 6", "as(6, 4) NOT");
        Calls.due(d, x, "as(7, 0) 5", "as(7, 1) NOT", "as(7, 2) NOT", "as(7, 3) NOT", "as(7, 4) 5", "as(7, 5) OUTSIDE", "as(7, -1) OUTSIDE",
                "as(8, 0) UNKNOWN", "as(-1, 0) UNKNOWN");
        Calls.due(d, x, "'plain 7;cellar 0'", "as(7, 1) 5", "as(7, 4) NOT", "as(0, 4) 5", "as(0, 1) NOT");
        return d;
    }

    private static Due minutesInAll() {
        Due d = new Due("10 go, above 9999 in all");
        SugarStamps x = Due.told("fade 0;trail 0 1 5;file 0 1 0");
        Calls.due(d, x, "go(0) OUTSIDE", "go(-1) OUTSIDE", "go(100) OUTSIDE", "count(5) 0", "go(1) 1", "go(99) 100");
        for (int i = 1; i <= 99; i++) d.due("go(99)", x.go(99), 100 + 99 * i);
        Calls.due(d, x, "go(99) FULL", "count(5) 9901", "go(97) 9998", "go(2) FULL", "count(5) 9998", "stamp(0, 3) 0", "go(1) 9999");
        // The file went in the last minute of all: what is foretold from there is told nevertheless.
        Calls.due(d, x, "file(0, 4) 9998", "filed(0) 9998", "go(1) FULL", "go(100) OUTSIDE", "count(5) 9999", "later(0, 99, 2) 8", "keep(0) 9999",
                "back(0) 9999", "go(1) FULL", "'fade 1'", "count(5) 0", "go(99) 99");
        x = Due.told("trail 0 1 5;file 0 1 0");
        for (int i = 1; i <= 101; i++) d.due("go(99)", x.go(99), 99 * i);
        Calls.due(d, x, "go(1) FULL", "stamp(0, 1) 0", "next(0) 0", "filed(0) 9999", "later(0, 1, 0) 1", "smear(0, 1, 0) 9999", "honey(1, 1, NONE) 0");
        return d;
    }

    private static Due scentInMinutes() {
        Due d = new Due("10 go, 99 at most, 0 at least");
        SugarStamps x = Due.told("fade 0;trail 0 1 90;trail 0 1 99;file 0 1 9;file 1 0 9");
        Calls.due(d, x, "spill(1, 89) 99", "go(1) 1", "trail(0, 2) 99", "trail(1, 2) 89");
        Calls.due(d, Due.told("fade 0;trail 0 1 90;file 0 1 9"), "go(1) 1", "trail(0, 2) 99");
        Calls.due(d, Due.told("fade 0;trail 0 1 91;file 0 1 9"), "go(1) 1", "trail(0, 2) 99");
        Calls.due(d, Due.told("fade 0;trail 0 1 99;file 0 1 1"), "go(1) 1", "trail(0, 2) 99");
        // First 99 at most, then less.
        Calls.due(d, Due.told("fade 9;trail 0 1 99;file 0 1 9;file 1 0 9"), "go(1) 1", "trail(0, 2) 90");
        Calls.due(d, Due.told("fade 1;trail 0 1 99;file 0 1 1"), "go(1) 1", "trail(0, 2) 98");
        Calls.due(d, Due.told("fade 9;trail 0 1 9;trail 0 1 10;trail 0 1 8;trail 0 1 0"), "go(1) 1", "trail(0, 2) 0", "trail(1, 2) 1",
                "trail(2, 2) 0", "trail(3, 2) 0", "go(1) 2", "trail(1, 2) 0");
        // First more, then less: 0 and 9 more, 9 less; 8 more is not enough to be left.
        Calls.due(d, Due.told("fade 9;trail 0 1 0;file 0 1 9"), "go(1) 1", "trail(0, 2) 0");
        Calls.due(d, Due.told("fade 9;trail 0 1 1;file 0 1 9"), "go(1) 1", "trail(0, 2) 1");
        Calls.due(d, Due.told("fade 9;trail 0 1 1;file 0 1 7"), "go(1) 1", "trail(0, 2) 0");
        Calls.due(d, Due.told("fade 0;trail 0 1 0;trail 0 1 7"), "go(99) 99", "trail(0, 2) 0", "trail(1, 2) 7");
        Calls.due(d, Due.told("trail 0 1 99"), "go(98) 98", "trail(0, 2) 1", "go(1) 99", "trail(0, 2) 0", "go(1) 100", "trail(0, 2) 0");
        return d;
    }

    private static Due sweetnessInMinutes() {
        Due d = new Due("10 go, sweetness");
        SugarStamps x = Due.told("office 3;stamps 1;stamps 2;trail 0 1 0;trail 1 2 0;file 0 2 7;file 1 0 9");
        // 7, 8, 9; at 9 it stays.
        Calls.due(d, x, "go(1) 1", "file(0, 2) 8", "file(1, 2) 9", "go(1) 2", "file(0, 2) 9");
        Calls.due(d, Due.told("office 3;stamps 1;stamps 2;trail 0 1 0;trail 1 2 0;file 0 2 9"), "go(1) 1", "file(0, 2) 9", "go(1) 2",
                "file(0, 2) 9", "file(0, 4) 1");
        Calls.due(d, Due.told("office 3;stamps 1;trail 0 1 0;file 0 2 8"), "go(1) 1", "file(0, 2) 9", "go(2) 3", "file(0, 2) 9");
        // At 0 it stays where it is, for good, unless it is stamped.
        Calls.due(d, Due.told("office 3;licks 1;trail 0 1 0;trail 1 2 0;file 0 2 1"), "go(1) 1", "file(0, 0) 1", "file(0, 2) 0", "next(0) NONE",
                "go(99) 100", "file(0, 0) 1", "file(0, 2) 0", "filed(0) NONE", "stamp(0, 1) 0", "next(0) 1", "go(1) 101", "file(0, 4) 100");
        // One with 0 is filed too, if it comes to its end.
        Calls.due(d, Due.told("licks 1;trail 0 1 0;file 0 1 1"), "go(1) 1", "file(0, 2) 0", "file(0, 4) 0", "count(7) 1");
        Calls.due(d, Due.told("trail 0 1 0;file 0 1 0;file 0 1 1"), "next(0) NONE", "next(1) 0", "go(9) 9", "count(7) 2");
        // Of several the least: files, and trails.
        x = Due.told("trail 0 1 3;trail 0 1 4;trail 0 1 4;file 0 1 8;file 0 1 9;file 0 1 9");
        Calls.due(d, x, "next(0) NONE", "next(1) 1", "next(2) NONE", "go(1) 1", "next(2) 1", "go(1) 2", "next(0) 1", "spill(2, 99) 2",
                "next(0) 2", "spill(1, 99) 20", "next(0) 1");
        // Filed for good, in no other minute, though trails go on from there.
        x = Due.told("office 3;trail 0 1 0;trail 1 2 0;file 0 1 5;file 1 0 4");
        Calls.due(d, x, "go(1) 1", "file(0, 4) 0", "next(0) NONE", "go(9) 10", "file(0, 0) 1", "file(0, 4) 0", "file(0, 3) 0", "file(1, 4) 0");
        return d;
    }

    private static Due wayOn() {
        Due d = new Due("10 go, not by that by which it came, if there is another one");
        SugarStamps x = Due.told("office 3;fade 0;trail 0 1 9;file 0 2 5");
        Calls.due(d, x, "next(0) 0", "go(1) 1", "next(0) 0", "go(1) 2", "file(0, 0) 0", "next(0) 0");
        x = Due.told("office 3;fade 0;trail 0 1 99;trail 1 2 0;file 0 2 5");
        Calls.due(d, x, "go(1) 1", "next(0) 1", "go(1) 2", "file(0, 4) 1");
        // One beside it, between the same desks, is another one.
        x = Due.told("office 3;fade 0;trail 0 1 9;trail 0 1 0;file 0 2 5");
        Calls.due(d, x, "go(1) 1", "next(0) 1", "go(1) 2", "next(0) 0");
        // At first it has come by none, so each is another one; which came last stays behind a winter and a rest.
        x = Due.told("office 3;fade 0;trail 1 0 9;trail 1 2 8;file 1 2 5");
        Calls.due(d, x, "next(0) 0", "go(1) 1", "sit(0) NONE", "go(5) 6", "file(0, 3) 0", "sit(NONE) 0", "next(0) 0", "go(1) 7", "next(0) 1");
        // All at once: who comes to a desk is not carried on in that minute, who leaves it is not in its way.
        x = Due.told("office 3;fade 0;trail 0 1 0;trail 1 2 0;file 0 2 9;file 1 2 1");
        Calls.due(d, x, "next(0) 0", "next(1) 0", "go(1) 1", "file(0, 0) 1", "file(1, 0) 0", "trail(0, 2) 10");
        return d;
    }

    private static Due winters() {
        Due d = new Due("10 go, winter");
        SugarStamps x = Due.told("winter 99;trail 0 1 99;file 0 1 1");
        Calls.due(d, x, "count(4) 99", "next(0) NONE", "go(98) 98", "count(4) 1", "next(0) NONE", "trail(0, 2) 1", "go(1) 99", "count(4) 0",
                "file(0, 0) 0", "next(0) 0", "trail(0, 2) 0", "go(1) 100", "file(0, 4) 99", "count(4) 0", "trail(0, 2) 0");
        x = Due.told("winter 1;trail 0 1 5;file 0 1 9");
        Calls.due(d, x, "next(0) NONE", "go(1) 1", "count(4) 0", "trail(0, 2) 4", "file(0, 0) 0", "next(0) 0", "go(1) 2", "file(0, 4) 1", "trail(0, 2) 12");
        x = Due.told("winter 0;trail 0 1 5;file 0 1 9");
        Calls.due(d, x, "next(0) 0", "go(1) 1", "count(4) 0", "file(0, 4) 0");
        return d;
    }

    private static Due queen() {
        Due d = new Due("15 sit");
        SugarStamps x = Due.told("office 8;trail 7 0 0;file 7 0 5;file 0 7 5");
        Calls.due(d, x, "sit(NONE) NONE", "sit(7) NONE", "count(6) 7", "next(0) NONE", "next(1) 0", "sit(8) UNKNOWN", "sit(-2) UNKNOWN", "count(6) 7",
                "go(1) 1", "file(0, 0) 7", "file(1, 4) 0", "sit(0) 7", "count(6) 0", "next(0) 0", "go(1) 2", "file(0, 4) 1", "sit(NONE) 0",
                "count(6) NONE", "sit(NONE) NONE");
        // A cellar lets nothing go, but it takes what comes.
        x = Due.told("office 3;cellar 1;trail 0 1 0;trail 1 2 9;file 0 2 5;file 1 0 5");
        Calls.due(d, x, "next(0) 0", "next(1) NONE", "go(9) 9", "file(0, 0) 1", "file(1, 0) 1", "file(0, 2) 5", "count(7) 0");
        return d;
    }

    private static Due poured() {
        Due d = new Due("12 spill, 13 stamp");
        SugarStamps x = Due.told("office 3;trail 0 1 7;trail 1 2 0;file 0 1 3;file 1 0 0");
        Calls.due(d, x, "spill(0, 0) 7", "trail(0, 2) 0", "spill(0, 99) 0", "trail(0, 2) 99", "spill(0, 99) 99", "spill(0, -1) OUTSIDE",
                "spill(0, 100) OUTSIDE", "trail(0, 2) 99", "spill(1, 1) 0", "spill(2, 1) UNKNOWN", "spill(-1, 1) UNKNOWN");
        Calls.due(d, x, "stamp(0, 0) 3", "file(0, 2) 0", "next(0) NONE", "stamp(0, 9) 0", "file(0, 2) 9", "next(0) 0", "stamp(0, -1) OUTSIDE",
                "stamp(0, 10) OUTSIDE", "file(0, 2) 9", "stamp(1, 1) 0", "stamp(2, 1) UNKNOWN", "stamp(-1, 1) UNKNOWN");
        Calls.due(d, x, "stamp(1, 0) 1", "go(1) 1", "stamp(0, 5) NOT", "stamp(0, 9) NOT", "stamp(0, 10) OUTSIDE", "file(0, 2) 9", "stamp(1, 5) 0");
        return d;
    }

    private static Due rain() {
        Due d = new Due("14 rain");
        Calls.due(d, new SugarStamps(), "rain() 0");
        SugarStamps x = Due.told("trail 0 1 0;trail 0 1 1;trail 0 1 2;trail 0 1 3;trail 0 1 98;trail 0 1 99", "trail 0 1 50" + ";trail 0 1 50".repeat(5));
        Calls.due(d, x, "rain() 10", "trail(0, 2) 0", "trail(1, 2) 0", "trail(2, 2) 1", "trail(3, 2) 1", "trail(4, 2) 49", "trail(5, 2) 49",
                "trail(11, 2) 25", "rain() 8", "trail(2, 2) 0", "trail(3, 2) 0", "trail(5, 2) 24", "rain() 8", "rain() 8", "trail(5, 2) 6",
                "trail(11, 2) 3", "rain() 8", "trail(11, 2) 1", "rain() 2", "trail(11, 2) 0", "rain() 0");
        return d;
    }

    private static Due kept() {
        Due d = new Due("16 keep, 17 back");
        SugarStamps x = Due.told("office 3;fade 3;winter 1;trail 0 1 40;file 0 1 5;file 0 2 4");
        Calls.due(d, x, "keep(-1) UNKNOWN", "keep(2) UNKNOWN", "back(-1) UNKNOWN", "back(2) UNKNOWN", "back(0) NOT", "back(1) NOT", "keep(1) 0",
                "back(0) NOT", "back(1) 0");
        Calls.due(d, x, "go(2) 2", "sit(2) NONE", "keep(0) 2", "go(1) 3", "rain() 1", "stamp(1, 9) 4", "sit(NONE) 2", "seen(0, 0, 0) 1", "crumbs(1, 5) 0");
        Due.write(x, "fade");
        Calls.due(d, x, "back(0) 2", "count(4) 0", "count(5) 2", "count(6) 2", "count(7) 1", "trail(0, 2) 39", "file(0, 0) 1", "file(0, 3) 0",
                "file(0, 4) 1", "file(1, 0) 0", "file(1, 2) 4", "file(1, 3) NONE", "count(9) 4");
        // Neither what was seen nor crumbs are among what is kept.
        Calls.due(d, x, "count(8) 1", "odds(1, 0) 1");
        Calls.due(d, x, "back(1) 0", "count(4) 1", "count(5) 0", "count(6) NONE", "count(7) 0", "trail(0, 2) 40", "file(0, 0) 0", "file(0, 3) NONE",
                "file(0, 4) NONE", "stamp(0, 6) 5", "back(1) 0", "file(0, 2) 5", "count(9) 4", "count(8) 1");
        // Kept anew, over what was kept; a text with a fault is no text.
        Calls.due(d, x, "go(9) 9", "keep(1) 9", "back(0) 2", "back(1) 9", "office() NOT", "back(0) 2", "erase() 4", "'fade 3'", "back(0) NOT",
                "back(1) NOT", "keep(0) 0", "back(0) 0", "back(1) NOT");
        // So they are as they are now, also where there were others as all was kept.
        x = Due.told("office 3;trail 0 1 40;file 0 2 5");
        Calls.due(d, x, "seen(0, 1, 0) 1", "crumbs(1, 5) 0", "keep(0) 0", "go(1) 1", "forget() 1", "crumbs(1, 0) 5", "crumbs(2, 7) 0", "back(0) 0",
                "count(5) 0", "count(8) 0", "stamps(0) 1023", "crumbs(1, 0) 0", "odds(2, 0) 1", "odds(2, 1) 1", "keep(1) 0", "seen(0, 0, 0) 1",
                "seen(0, 0, 1) 2", "back(1) 0", "count(8) 2", "forget() 2");
        return d;
    }

    private static Due later() {
        Due d = new Due("18 later, 0 .. 99 minutes");
        SugarStamps x = Due.told("fade 0;stamps 1;trail 0 1 40;winter 98;file 0 1 5");
        Calls.due(d, x, "later(0, 0, 0) 0", "later(0, 0, 1) 5", "later(0, 0, 2) 40", "later(0, 98, 0) 0", "later(0, 99, 0) 1", "later(0, 98, 1) 5",
                "later(0, 99, 1) 6", "later(0, 98, 2) 40", "later(0, 99, 2) 45", "later(0, 100, 0) OUTSIDE", "later(0, -1, 0) OUTSIDE", "count(5) 0");
        x = Due.told("fade 0;trail 0 1 40;winter 99;file 0 1 5");
        Calls.due(d, x, "later(0, 99, 0) 0", "later(0, 99, 2) 40", "go(1) 1", "later(0, 99, 0) 1", "later(0, 99, 2) 45");
        // Of the last trail and the last file; there are more trails than files, so what tells who is UNKNOWN.
        x = Due.told("trail 0 1 40" + ";trail 0 1 40".repeat(11), "file 0 1 1" + ";file 0 1 1".repeat(5));
        Calls.due(d, x, "later(5, 6, 0) 1", "later(5, 5, 0) 0", "later(5, 99, 1) 1", "later(11, 1, 2) 39", "later(6, 0, 0) UNKNOWN",
                "later(6, 0, 1) UNKNOWN", "later(6, 0, 2) 40", "later(12, 0, 2) UNKNOWN", "later(6, 100, 0) UNKNOWN", "later(6, 100, 2) OUTSIDE",
                "later(6, 0, 3) OUTSIDE", "later(12, 0, -1) OUTSIDE");
        x = Due.told("file 0 1 1");
        Calls.due(d, x, "later(0, 0, 0) 0", "later(0, 0, 2) UNKNOWN");
        return d;
    }

    private static Due filedOfTheNext200() {
        Due d = new Due("19 filed, of the next 200");
        // Round and round by three trails of n, until trail 0, of 0 for long, smells as much: behind n - 1 rounds, each of 3 minutes.
        String rounds = "office 4;trail 0 3 0;trail 0 1 67;trail 1 2 67;trail 2 0 67;file 0 3 2;winter 1";
        Calls.due(d, Due.told(rounds), "filed(0) 199", "go(99) 99", "go(99) 198", "filed(0) 199", "go(1) 199", "filed(0) 199", "file(0, 4) NONE",
                "go(1) 200", "filed(0) 199", "file(0, 4) 199", "go(99) 299", "filed(0) 199");
        Calls.due(d, Due.told(rounds.replace("winter 1", "winter 2").replace("67", "68")), "filed(0) NONE", "go(1) 1", "filed(0) 200", "count(5) 1");
        Calls.due(d, Due.told("trail 0 1 0;file 0 1 1;file 0 1 0"), "filed(0) 0", "filed(1) NONE", "filed(2) UNKNOWN", "filed(-1) UNKNOWN");
        Calls.due(d, Due.told("trail 0 1 0" + ";file 0 1 7".repeat(6)), "filed(5) 5", "filed(6) UNKNOWN");
        Calls.due(d, Due.told("trail 0 1 0;file 0 1 1;file 0 1 2"), "filed(0) 1", "filed(1) 0");
        return d;
    }

    private static Due queues() {
        Due d = new Due("20 queue, 0 .. 99 minutes");
        SugarStamps x = Due.told("office 8;winter 98;trail 0 7 0" + ";file 0 7 1".repeat(5) + ";file 7 0 1");
        Calls.due(d, x, "queue(0, 0) 5", "queue(7, 0) 1", "queue(0, 98) 5", "queue(7, 98) 1", "queue(0, 99) 4", "queue(7, 99) 0", "queue(7, 100) OUTSIDE",
                "queue(7, -1) OUTSIDE", "queue(8, 0) UNKNOWN", "queue(-1, 0) UNKNOWN", "go(99) 99", "queue(0, 0) 4", "desk(0, 1) 62", "queue(0, 1) 3",
                "queue(0, 4) 0", "queue(0, 99) 0", "desk(7, 1) 1", "queue(7, 0) 0");
        Calls.due(d, Due.told("file 0 1 1" + ";file 0 1 1".repeat(5)), "queue(0, 99) 6", "queue(1, 99) 0");
        return d;
    }

    private static Due honeyInTime() {
        Due d = new Due("21 honey, 1 .. 60 minutes");
        SugarStamps x = Due.told("winter 59;trail 0 1 0;file 0 1 1");
        Calls.due(d, x, "honey(1, 60, NONE) 0", "honey(1, 59, NONE) NONE", "honey(1, 61, NONE) OUTSIDE", "honey(1, 0, NONE) OUTSIDE", "honey(1, 1, NONE) NONE");
        x = Due.told("winter 60;trail 0 1 0;file 0 1 1");
        Calls.due(d, x, "honey(1, 60, NONE) NONE", "honey(1, 60, 0) NONE", "go(1) 1", "honey(1, 60, NONE) 0", "honey(1, 60, 0) 0", "honey(1, 59, NONE) NONE");
        // In its very first minute; the second of two needs two.
        x = Due.told("trail 0 1 0;file 0 1 1;file 0 1 1");
        Calls.due(d, x, "honey(1, 1, NONE) 0", "honey(2, 1, NONE) 1", "honey(3, 1, NONE) NONE", "honey(3, 2, NONE) 0");
        return d;
    }

    private static Due honeyOfSweetness() {
        Due d = new Due("21 honey, sweetness 9 at most");
        SugarStamps x = Due.told("trail 0 1 0;file 0 1 0;file 0 1 9;file 0 1 1");
        // As sweet as file 1 is enough for file 0, the least; file 2 would have to be sweeter.
        Calls.due(d, x, "honey(1, 1, NONE) 9", "honey(1, 1, 0) 9", "honey(4, 1, NONE) NONE", "honey(2, 1, NONE) 0", "honey(4, 2, NONE) 0");
        Calls.due(d, x, "stamp(1, 8) 9", "honey(1, 1, NONE) 8", "honey(4, 1, NONE) 8", "honey(4, 1, 0) 8", "stamp(0, 9) 0", "honey(4, 1, NONE) NONE",
                "honey(1, 1, NONE) 0", "stamp(0, 0) 9");
        // One without sweetness needs 1.
        x = Due.told("trail 0 1 0;file 0 1 0");
        Calls.due(d, x, "honey(1, 1, NONE) 1", "honey(1, 1, 0) 1", "honey(1, 1, 1) NONE", "honey(1, 1, MAX) NONE", "honey(1, 1, -2) OUTSIDE");
        // Six desks lick on the way, the seventh is the end: each of four needs 7; they leave one by one, the last in minute 3.
        x = Due.told(LICKING_ROW);
        Calls.due(d, x, "'file 0 7 0;file 0 7 0;file 0 7 0;file 0 7 0'", "honey(15, 10, NONE) 28", "honey(15, 60, NONE) 28", "honey(15, 9, NONE) NONE",
                "honey(15, 10, 0) 7", "honey(15, 10, 3) 7", "honey(15, 10, 4) NONE", "honey(9, 8, NONE) 14", "honey(1, 7, NONE) 7", "honey(1, 6, NONE) NONE");
        // By two dead ends eight desks lick on the way: 9 for each of four, all that can be given.
        x = Due.told("office 8;fade 0;licks 0;licks 2;licks 3;licks 4;licks 5;licks 6;licks 1",
                "trail 1 0 90;trail 1 2 0;trail 2 3 90;trail 2 4 50;trail 4 5 0;trail 5 6 0;trail 6 7 0");
        Calls.due(d, x, "'file 1 7 0;file 1 7 0;file 1 7 0;file 1 7 0'", "honey(1, 9, NONE) 9", "honey(1, 8, NONE) NONE", "honey(15, 16, NONE) 36",
                "honey(15, 60, 0) 9", "honey(15, 60, 3) 9", "honey(15, 15, NONE) NONE");
        return d;
    }

    private static Due honeyOfSets() {
        Due d = new Due("21 honey, 4 files at most");
        SugarStamps x = Due.told("trail 0 1 0;file 0 1 1" + ";file 0 1 1".repeat(5));
        Calls.due(d, x, "honey(0, 1, NONE) 0", "honey(0, 1, 0) NONE", "honey(0, 0, NONE) OUTSIDE", "honey(15, 4, NONE) 0", "honey(31, 5, NONE) NOT",
                "honey(63, 6, NONE) NOT", "honey(31, 5, 4) NOT", "honey(60, 60, NONE) 0", "honey(64, 1, NONE) UNKNOWN", "honey(-1, 1, NONE) UNKNOWN",
                "honey(MIN, 1, NONE) UNKNOWN", "honey(32, 1, NONE) 1", "honey(32, 1, 0) 1", "honey(48, 2, NONE) 2", "honey(48, 2, 0) 1", "honey(48, 2, 1) 1");
        // None gets less than nothing: file 0 has enough, and file 1 does not get its part.
        Calls.due(d, Due.told("trail 0 1 0;file 0 1 5;file 0 1 1;file 0 1 2"), "honey(3, 2, NONE) 1", "honey(3, 2, 0) 0", "honey(3, 2, 1) 1");
        // Of the set, from the least file; the first row of several: file 0 gets less.
        Calls.due(d, x, "honey(36, 2, NONE) 2", "honey(36, 3, NONE) 2", "honey(36, 4, NONE) 1", "honey(36, 4, 0) 0", "honey(36, 4, 1) 1",
                "honey(36, 4, 2) NONE");
        Calls.due(d, x, "go(1) 1", "honey(1, 1, NONE) NOT", "honey(3, 1, 5) NOT", "honey(30, 4, NONE) 0", "honey(62, 5, NONE) NOT", "honey(63, 5, NONE) NOT");
        return d;
    }

    private static Due smearInTime() {
        Due d = new Due("22 smear, 1 .. 99 minutes");
        SugarStamps x = Due.told("winter 98;trail 0 1 0;file 0 1 1");
        Calls.due(d, x, "smear(0, 99, 0) 98", "smear(0, 99, 1) 0", "smear(0, 99, 2) 0", "smear(0, 98, 0) NONE", "smear(0, 98, 1) NONE",
                "smear(0, 98, 2) NONE", "smear(0, 100, 0) OUTSIDE", "smear(0, 0, 0) OUTSIDE");
        x = Due.told("winter 99;trail 0 1 0;file 0 1 1");
        Calls.due(d, x, "smear(0, 99, 0) NONE", "go(1) 1", "smear(0, 99, 0) 99", "go(98) 99", "smear(0, 1, 0) 99", "smear(0, 1, 2) 0", "smear(0, 99, 0) 99",
                "smear(0, 99, 2) 0", "go(1) 100",
                "smear(0, 99, 0) NOT", "smear(0, 0, 0) OUTSIDE");
        x = Due.told("file 0 1 1");
        Calls.due(d, x, "smear(0, 99, 0) NONE", "smear(0, 99, 1) NONE", "smear(0, 99, 2) NONE");
        return d;
    }

    private static Due smearOfTrails() {
        Due d = new Due("22 smear, the least trail, the least scent");
        // Only the twelfth trail goes to the end: 51 is the least by which it smells most.
        SugarStamps x = Due.told("office 3;trail 0 1 50" + ";trail 0 1 50".repeat(10), "trail 0 2 0;file 0 2 1");
        Calls.due(d, x, "smear(0, 1, 0) 0", "smear(0, 1, 1) 11", "smear(0, 1, 2) 51", "spill(3, 98) 50", "smear(0, 1, 2) 99", "spill(3, 99) 98",
                "smear(0, 1, 2) NONE", "trail(11, 2) 0");
        // Of like scent the least trail goes, so trail 0 is enough with as much as trail 1.
        x = Due.told("office 3;trail 0 2 0;trail 0 1 30;file 0 2 1");
        Calls.due(d, x, "smear(0, 1, 0) 0", "smear(0, 1, 1) 0", "smear(0, 1, 2) 30", "spill(1, 99) 30", "smear(0, 1, 2) 99", "spill(0, 99) 0",
                "smear(0, 1, 2) 99", "spill(1, 0) 99", "smear(0, 1, 1) 0", "smear(0, 1, 2) 0");
        // By like minutes the least trail, though a later one does it with less: trail 1 with 30, trail 2 with 0.
        x = Due.told("office 3;trail 1 2 5;trail 0 2 29;trail 0 1 30;file 0 2 1");
        Calls.due(d, x, "smear(0, 1, 1) 1", "smear(0, 1, 2) 30", "smear(0, 2, 0) 0", "smear(0, 2, 1) 1", "filed(0) 1");
        // Sooner is more than a lesser trail: trail 0 gets it there in minute 1 with no scent at all.
        x = Due.told("office 4;trail 0 1 5;trail 1 2 0;trail 0 2 4;file 0 2 1");
        Calls.due(d, x, "filed(0) 1", "smear(0, 9, 0) 0", "smear(0, 9, 1) 0", "smear(0, 9, 2) 0");
        x = Due.told("office 3;trail 1 2 0;trail 0 1 5;trail 0 1 5;trail 0 2 4;file 0 2 1");
        Calls.due(d, x, "smear(0, 9, 0) 0", "smear(0, 9, 1) 3", "smear(0, 9, 2) 6");
        return d;
    }

    private static Due quietWays() {
        Due d = new Due("23 quiet");
        SugarStamps x = Due.told("office 8;trail 0 1 0;trail 2 1 0;trail 2 3 0;trail 4 3 0;trail 4 5 0;trail 6 5 0;trail 6 7 0");
        Calls.due(d, x, "quiet(0, 7) 7", "quiet(7, 0) 7", "quiet(0, 0) 0", "quiet(7, 7) 0", "quiet(3, 5) 2", "quiet(8, 0) UNKNOWN", "quiet(0, 8) UNKNOWN",
                "quiet(-1, 0) UNKNOWN", "quiet(0, -1) UNKNOWN");
        // No scent now: 1 is one; it does not matter who sits where, what kind a desk is, or winter.
        Calls.due(d, x, "spill(3, 1) 0", "quiet(0, 7) NONE", "quiet(0, 3) 3", "quiet(4, 7) 3", "rain() 0", "quiet(0, 7) 7", "sit(4) NONE", "quiet(0, 7) 7",
                "spill(0, 1) 0", "quiet(0, 7) NONE", "go(1) 1", "quiet(0, 7) 7");
        Calls.due(d, x, "'cellar 3;winter 9;trail 0 7 0'", "quiet(0, 7) 1", "quiet(0, 4) 4", "quiet(0, 6) 2");
        Calls.due(d, new SugarStamps(), "quiet(0, 1) NONE", "quiet(1, 1) 0");
        return d;
    }

    private static Due harms() {
        Due d = new Due("24 harm, 1 .. 99 minutes");
        SugarStamps x = Due.told("office 3;trail 0 1 0" + ";file 0 1 1".repeat(6));
        Calls.due(d, x, "harm(0, 1) 101", "harm(0, 5) 105", "harm(0, 6) 106", "harm(0, 99) 106", "harm(1, 99) 100", "harm(2, 99) 100", "harm(0, 0) OUTSIDE",
                "harm(0, 100) OUTSIDE", "harm(3, 1) UNKNOWN", "harm(-1, 1) UNKNOWN", "go(2) 2", "harm(0, 99) 104", "harm(0, 3) 103");
        x = Due.told("winter 98;trail 0 1 0;file 0 1 1");
        Calls.due(d, x, "harm(0, 99) 101", "harm(0, 98) 100");
        x = Due.told("winter 99;trail 0 1 0;file 0 1 1");
        Calls.due(d, x, "harm(0, 99) 100", "go(1) 1", "harm(0, 99) 101", "harm(0, 98) 100");
        // Below 100: held at desk 1, file 1 does not go ahead of file 0.
        x = Due.told("office 4;fade 0;trail 0 2 50;trail 1 0 0;file 0 2 1;file 1 3 9;file 0 2 5");
        Calls.due(d, x, "harm(1, 2) 99", "sit(1) NONE", "harm(1, 2) 99", "harm(2, 2) 100", "count(6) 1");
        return d;
    }

    private static Due worstDesks() {
        Due d = new Due("25 worst");
        Calls.due(d, new SugarStamps(), "worst(1) 0", "worst(99) 0", "worst(0) OUTSIDE", "worst(100) OUTSIDE");
        // The last desk; of several the least.
        Calls.due(d, Due.told("office 8;trail 7 6 0;file 7 6 1"), "worst(1) 7", "worst(99) 7");
        Calls.due(d, Due.told("office 8;trail 7 6 0;file 7 6 1;file 6 7 1"), "worst(1) 6");
        Calls.due(d, Due.told("office 8;trail 7 6 0;file 7 6 1;file 7 6 1;file 6 7 1"), "worst(1) 6", "worst(2) 7", "sit(7) NONE", "worst(2) 7");
        Calls.due(d, Due.told("office 4;trail 0 1 0;trail 2 3 0;file 0 1 1;file 0 1 1;file 2 3 1"), "harm(0, 2) 102", "harm(2, 2) 101", "worst(2) 0",
                "worst(1) 0");
        // On desk 0 she would help, on all others she does nothing: desk 1 is the least of these.
        Calls.due(d, Due.told("office 4;fade 0;trail 3 1 0;trail 1 2 5;trail 0 1 0;file 3 2 1;file 0 3 9"), "harm(0, 2) 99", "harm(1, 2) 100",
                "harm(2, 2) 100", "harm(3, 2) 100", "worst(2) 1");
        Calls.due(d, Due.told("winter 98;office 2;winter 98;trail 1 0 0;file 1 0 1"), "worst(98) 0", "worst(99) 1");
        return d;
    }

    private static Due seenSix() {
        Due d = new Due("26 seen, 27 forget");
        SugarStamps x = Due.told("office 8;trail 0 1 0" + ";file 0 1 1".repeat(6));
        Calls.due(d, x, "forget() 0", "seen(0, 0, -1) OUTSIDE", "seen(0, 0, 100) OUTSIDE", "count(8) 0", "seen(0, 0, 0) 1", "seen(5, 7, 99) 2",
                "seen(6, 0, 0) UNKNOWN", "seen(0, 8, 0) UNKNOWN", "seen(-1, 0, 0) UNKNOWN", "seen(0, -1, 0) UNKNOWN", "count(8) 2", "seen(0, 0, 0) 3",
                "seen(1, 0, 0) 4", "seen(1, 0, 1) 5", "seen(1, 1, 2) 6", "seen(1, 1, 3) FULL", "seen(0, 0, 0) FULL", "seen(6, 0, 0) UNKNOWN",
                "seen(0, 0, 100) OUTSIDE", "count(8) 6");
        // All six count, the last one too: file 1 leaves behind file 0, so it has less than 2; with 1 it leaves in minute 1.
        Calls.due(d, x, "stamps(1) 2", "stamps(5) 0", "stamps(0) 1023", "stamps(2) 1023", "forget() 6", "count(8) 0", "forget() 0", "stamps(5) 1023",
                "seen(5, 0, 0) 1", "go(9) 9", "sit(1) NONE", "count(8) 1");
        // One told again is one more, up to six; it tells nothing new.
        x = Due.told("trail 0 1 0;file 0 1 5");
        Calls.due(d, x, "seen(0, 1, 1) 1", "seen(0, 1, 1) 2", "stamps(0) 1022", "seen(0, 1, 1) 3", "seen(0, 1, 1) 4", "seen(0, 1, 1) 5", "seen(0, 1, 1) 6",
                "seen(0, 1, 1) FULL", "count(8) 6", "stamps(0) 1022", "forget() 6");
        return d;
    }

    private static Due stampsByMinutes() {
        Due d = new Due("28 stamps, minutes 0 .. 99");
        SugarStamps x = Due.told("winter 98;trail 0 1 0;file 0 1 5;file 1 0 5");
        Calls.due(d, x, "stamps(0) 1023", "stamps(1) 1023", "seen(0, 0, 98) 1", "stamps(0) 1023", "seen(0, 1, 99) 2", "stamps(0) 1022", "stamps(1) 1023",
                "seen(0, 1, 98) 3", "stamps(0) 0", "forget() 3", "seen(0, 0, 99) 1", "stamps(0) 1", "stamps(2) UNKNOWN", "stamps(-1) UNKNOWN");
        // At the begin of minute 0: where it was told to be, with any sweetness.
        Calls.due(d, x, "forget() 1", "seen(1, 1, 0) 1", "stamps(1) 1023", "seen(1, 0, 0) 2", "stamps(1) 0");
        // Only 9, and only 0, by bits.
        Calls.due(d, Due.told("trail 0 1 0;file 0 1 8;file 0 1 3"), "seen(1, 1, 1) 1", "stamps(1) 512", "forget() 1", "seen(1, 0, 2) 1", "stamps(1) 1");
        // Minutes as told: without the queen, the rain, what was spilled or stamped since.
        x = Due.told("office 3;trail 0 1 5;trail 0 2 4;file 0 2 3;file 0 1 6");
        Calls.due(d, x, "seen(0, 1, 1) 1", "stamps(0) 960", "sit(0) NONE", "spill(1, 99) 4", "stamp(1, 0) 6", "stamps(0) 960", "rain() 2", "go(7) 7",
                "stamps(0) 960", "count(5) 7", "stamps(1) 1023");
        return d;
    }

    private static Due crumbsAndOdds() {
        Due d = new Due("29 crumbs, 30 odds");
        SugarStamps x = Due.told("office 8");
        Calls.due(d, x, "odds(0, 0) NOT", "crumbs(7, 0) 0", "odds(7, 1) NOT", "crumbs(7, 1) 0", "odds(7, 0) 1", "odds(7, 1) 1", "odds(0, 0) 0", "odds(0, 1) 1",
                "crumbs(7, 99) 1", "odds(7, 1) 1", "crumbs(7, 100) OUTSIDE", "crumbs(7, -1) OUTSIDE", "crumbs(8, 1) UNKNOWN", "crumbs(-1, 1) UNKNOWN",
                "crumbs(0, 98) 0", "odds(7, 0) 99", "odds(7, 1) 197", "odds(0, 0) 98", "odds(0, 1) 197", "odds(8, 0) UNKNOWN", "odds(0, 2) OUTSIDE",
                "odds(0, -1) OUTSIDE", "crumbs(0, 99) 98", "odds(0, 0) 1", "odds(0, 1) 2");
        for (int desk = 1; desk < 7; desk++) d.due("crumbs(" + desk + ", 99)", x.crumbs(desk, 99), 0);
        Calls.due(d, x, "odds(3, 0) 1", "odds(3, 1) 8", "crumbs(3, 98) 99", "odds(3, 0) 14", "odds(3, 1) 113", "crumbs(3, 0) 98", "odds(3, 0) 0",
                "odds(3, 1) 1", "odds(2, 1) 7");
        Calls.due(d, Due.told("office 3"), "crumbs(0, 2) 0", "crumbs(1, 4) 0", "odds(0, 0) 1", "odds(0, 1) 3", "odds(1, 0) 2", "odds(1, 1) 3", "odds(2, 0) 0",
                "odds(2, 1) 1");
        for (int desk = 0; desk < 8; desk++) x.crumbs(desk, 0);
        Calls.due(d, x, "odds(3, 0) NOT", "odds(3, 2) OUTSIDE");
        return d;
    }

    private static Due counts() {
        Due d = new Due("31 count");
        SugarStamps x = Due.told("office 8;fade 9;winter 99;trail 0 1 99" + ";trail 0 1 99".repeat(8), "trail 0 1 0;trail 0 1 0;trail 0 1 0"
                + ";file 0 1 1".repeat(6));
        Calls.due(d, x, "count(0) 8", "count(1) 12", "count(2) 6", "count(3) 9", "count(4) 99", "count(5) 0", "count(6) NONE", "count(7) 0", "count(-1) OUTSIDE",
                "count(10) OUTSIDE", "go(99) 99", "count(4) 0", "count(5) 99", "go(6) 105", "count(7) 63", "sit(7) NONE", "count(6) 7", "sit(0) 7", "count(6) 0");
        return d;
    }
}
