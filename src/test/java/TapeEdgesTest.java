/** The edges that Terms I and promises 1 to 8 name, sentence by sentence. */
public final class TapeEdgesTest {
    private static final Check C = new Check("TapeEdgesTest");
    private static final String A = "piece a 0 parts 3 worth 1 1;";

    public static void main(String[] args) {
        atMost700Bytes();
        highestByteFirst();
        firstBytesAlone();
        eachReadingEmpties();
        othersDontEmpty();
        blanksAreTwo();
        wordsOfEight();
        everyLetterOfAWord();
        numbersOfFour();
        textsThatEndEarly();
        asManyAsSides();
        boundsOfNumbers();
        atMostSixPieces();
        productOf400();
        anyWordNames();
        firstFaultComeTo();
        leastKindOfOneToken();
        toldTwice();
        unknownPieces();
        clausesCounted();
        aFaultStays();
        aMatterForgets();
        whatIsntTold();
        othersAreNone();
        C.finish();
    }

    private static void ok(String text, int clauses) {
        StepAway x = new StepAway();
        C.due("matter() of [" + text + "]", Check.matter(x, text), clauses);
        C.due("fault(0) of [" + text + "]", x.fault(0), 0);
        C.due("fault(1) of [" + text + "]", x.fault(1), -1);
    }

    /** Fills THE TAPE as far as it goes. */
    private static StepAway full() {
        StepAway x = new StepAway();
        for (int i = 0; i < 35; i++) {
            x.feed(0x20202020, 0x20202020, 0x20202020, 0x20202020, 0x20202020);
        }
        return x;
    }

    /** "THE TAPE has at most 700 bytes"; "FULL when there would be more than 700". */
    private static void atMost700Bytes() {
        StepAway x = full();
        C.due("700 bytes", x.count(3), 700);
        C.due("FULL", x.feed(1, 2, 3, 4, 5), -3);
        C.due("FULL changes nothing", x.count(3), 700);
        for (int n = 700; n >= 681; n--) {
            x.end(n);
            C.due("feed behind " + n, x.feed(0, 0, 0, 0, 0), -3);
            C.due("as many as before", x.count(3), n);
        }
        for (int n = 680; n >= 0; n -= 85) {
            x.end(n);
            C.due("feed behind " + n, x.feed(0, 0, 0, 0, 0), n + 20);
        }
        String longest = "sides 3" + " ".repeat(692) + ";";
        StepAway all = new StepAway();
        Check.tape(all, longest);
        C.due("FULL", all.feed(0x3b3b3b3b, 0x3b3b3b3b, 0x3b3b3b3b, 0x3b3b3b3b, 0x3b3b3b3b), -3);
        C.due("all 700 bytes are read, and none of those refused", all.matter(), 1);
        C.fault("sides 3" + " ".repeat(693), 1, 700);
        C.fault("sides 3;" + "\n".repeat(691) + "x", 1, 699);
    }

    /** "the highest of each int first". */
    private static void highestByteFirst() {
        for (int place = 0; place < 20; place++) {
            int[] ints = {0x20202020, 0x20202020, 0x20202020, 0x20202020, 0x20202020};
            ints[place / 4] ^= 0xa0 << (24 - place % 4 * 8);
            StepAway x = new StepAway();
            C.due("twenty bytes", x.feed(ints[0], ints[1], ints[2], ints[3], ints[4]), 20);
            C.due("no matter", x.matter(), -1);
            C.due("the byte that is none", x.fault(1), place);
        }
    }

    /** "THE TAPE has its first n bytes alone: n; NONE when it has not so many, or n below 0". */
    private static void firstBytesAlone() {
        StepAway x = new StepAway();
        C.due("none of none", x.end(0), 0);
        C.due("one of none", x.end(1), -1);
        Check.tape(x, "sides 2;day 3;");
        C.due("all", x.end(14), 14);
        int[] refused = {15, 16, 20, 699, 700, 701, -1, -2, -14, Integer.MAX_VALUE,
            Integer.MIN_VALUE, Integer.MIN_VALUE + 14, 256, 65536 + 8};
        for (int n : refused) {
            C.due("end(" + n + ")", x.end(n), -1);
            C.due("NONE changes nothing", x.count(3), 14);
        }
        C.due("the first eight", x.end(8), 8);
        C.due("eight", x.count(3), 8);
        C.due("those behind are gone", x.end(14), -1);
        C.due("what comes is behind them", x.feed(0x64617920, 0x353b2020, 0x20202020, 0x20202020,
                0x20202020), 28);
        C.due("both", x.matter(), 2);
        C.due("day 5", x.told(2), 5);
        String[] texts = {"sides 23;", "sides 2; pairsa;", "sides 2; day 1;", "sides 2;day 99;"};
        int[] cutAt = {7, 14, 12, 13};
        for (int i = 0; i < texts.length; i++) {
            Check.tape(x, texts[i]);
            x.end(cutAt[i]);
            C.due("cut off", x.matter(), -1);
            C.due("at the end that it has now", x.fault(1), cutAt[i]);
        }
    }

    /** "each call that reads it empties it, whatever it tells". */
    private static void eachReadingEmpties() {
        StepAway x = new StepAway();
        String[] texts = {"sides 2;" + A, "sides 2;" + A + "day", "", "sides 4;", "sides 2;" + A};
        int[] clauses = {2, -1, -1, -1, 2};
        for (int i = 0; i < texts.length; i++) {
            C.due("matter()", Check.matter(x, texts[i]), clauses[i]);
            C.due("empty", x.count(3), 0);
            C.due("no byte is kept", x.end(1), -1);
        }
        String[] rows = {"", "1", "x", "1".repeat(41), "1", "1"};
        int[] late = {0, 0, 9, 0, -1, 10};
        int[] answers = {0, 0, 0, -1, -2, -2};
        for (int i = 0; i < rows.length; i++) {
            C.due("judge() of " + rows[i], Check.judge(x, rows[i], late[i]), answers[i]);
            C.due("empty", x.count(3), 0);
        }
    }

    private static void othersDontEmpty() {
        StepAway x = Check.of("sides 2;" + A);
        Check.tape(x, "sides 3;");
        x.fault(0);
        x.told(0);
        x.piece(0, 0);
        x.corner(0);
        x.parts(0, 0);
        x.stop(0, 0);
        x.goal(0);
        x.gift(3, 0, 1);
        x.leave(3, 1);
        x.find(3, 0);
        x.row(0, 0);
        x.along(0);
        x.safe(3, 0);
        x.many(0);
        x.need();
        x.last();
        x.pledge(9, 0);
        x.cut(0);
        x.edge(0, 0);
        x.great(0);
        x.again(3, 0, 50);
        x.judged(0);
        x.did(0, 0, 3, 1, 0);
        x.right(0, 0, 1);
        x.fit(0, 0);
        x.ask(0, 1);
        C.due("these don't read it", x.count(3), 8);
        C.due("nor change it", x.matter(), 1);
        C.due("three", x.told(0), 3);
    }

    /** "TOKENS with any blanks (32, 10) between"; "a byte that is none". */
    private static void blanksAreTwo() {
        for (int b = 0; b < 256; b++) {
            char sign = (char) b;
            String between = "sides" + sign + "2;";
            String behind = "sides 2;" + sign;
            String ahead = sign + "sides 2;";
            boolean letter = sign >= 'a' && sign <= 'z';
            boolean digit = sign >= '0' && sign <= '9';
            if (sign == 32 || sign == 10) {
                ok(between, 1);
                ok(behind, 1);
                ok(ahead, 1);
                continue;
            }
            if (sign == '0') {
                ok(between, 1);
            } else {
                C.fault(between, digit ? 2 : 1, letter ? 0 : 5);
            }
            C.fault(behind, 1, 8);
            C.fault(ahead, 1, 0);
        }
        ok("\n \n sides \n\n 2 \n ; \n ", 1);
        ok("sides2;piece a0parts1worth0-0;whole a;left a0;peace1 2;", 5);
        C.fault("sides2;piecea0parts1worth0-0;", 1, 7);
        C.fault("si des 2;", 1, 0);
        C.fault("sides 2;day 1 2;", 1, 14);
    }

    /** "WORDS (small letters, as many as there are, 8 at most)". */
    private static void wordsOfEight() {
        for (int length = 1; length <= 8; length++) {
            String name = "z".repeat(length);
            ok("sides 2;piece " + name + " 0 parts 1 worth 1 1;whole " + name + ";", 3);
        }
        for (int length : new int[] {9, 10, 16, 17, 255, 257, 600}) {
            String name = "z".repeat(length);
            C.fault("sides 2;piece " + name + " 0 parts 1 worth 1 1;", 1, 14);
        }
        C.fault("sidessides 2;", 1, 0);
        C.fault("sides 2;pairsa;", 1, 8);
        C.fault("sides 2;pair;", 1, 8);
        C.fault("sides 2;piece abcdefgH 0", 1, 21);
        C.fault("sides 2;piece ab`cd 0", 1, 16);
        C.fault("sides 2;piece ab{cd 0", 1, 16);
    }

    /** A WORD of the text with one letter changed, left out or doubled is no such WORD. */
    private static void everyLetterOfAWord() {
        String[] words = {"sides", "parts", "worth", "turns", "any", "once", "whole", "left", "peace",
            "breach", "day", "lump", "mode", "first", "pairs", "piece"};
        String clause = "sides 2;" + A;
        String mode = "sides 2;mode ";
        String[] ahead = {"", "sides 2;piece a 0 ", "sides 2;piece a 0 parts 1 ", mode, mode, mode,
            clause, clause, clause, clause, clause, clause, clause, clause, clause, clause};
        for (int w = 0; w < words.length; w++) {
            String word = words[w];
            for (int i = 0; i < word.length(); i++) {
                char other = word.charAt(i) == 'q' ? 'x' : 'q';
                String[] wrong = {word.substring(0, i) + other + word.substring(i + 1),
                    word.substring(0, i) + word.charAt(i) + word.substring(i)};
                for (String not : wrong) {
                    C.fault(ahead[w] + not + " 1", 1, ahead[w].length());
                }
                String less = word.substring(0, i) + word.substring(i + 1);
                C.fault(ahead[w] + less + " 1", 1, ahead[w].length());
            }
        }
    }

    /** "N (digits, as many as there are, 4 at most)". */
    private static void numbersOfFour() {
        ok("sides 2;", 1);
        ok("sides 02;", 1);
        ok("sides 002;", 1);
        ok("sides 0002;", 1);
        C.fault("sides 00002;", 1, 6);
        C.fault("sides 000000002;", 1, 6);
        C.fault("sides 4294967298;", 1, 6);
        C.fault("sides 18446744073709551618;", 1, 6);
        C.fault("sides " + "0".repeat(600) + "2;", 1, 6);
        ok("sides 2;day 0000;", 2);
        C.fault("sides 2;day 00000;", 1, 12);
        C.fault("sides 2;day 0/;", 1, 13);
        C.fault("sides 2;day 0:;", 1, 13);
        C.fault("sides ;", 1, 6);
    }

    /** "the text's length at its end": a text that ends ahead of its ";" has its FAULT there. */
    private static void textsThatEndEarly() {
        String[] tokens = ("sides 2 ; piece a 0 parts 3 worth 1 - 1 ; whole a ; left a 1 ;"
                + " peace 1 1 ; breach 1 1 ; day 1 ; lump 1 ; mode any ; first 1 ; pairs ;").split(" ");
        StringBuilder text = new StringBuilder();
        int clauses = 0;
        C.fault("", 1, 0);
        for (String token : tokens) {
            text.append(token).append(' ');
            if (token.equals(";")) {
                clauses++;
                ok(text.toString(), clauses);
            } else {
                C.fault(text.toString(), 1, text.length());
                C.fault(text.toString().trim(), 1, text.length() - 1);
                C.fault(text + "\n\n", 1, text.length() + 2);
            }
        }
        C.due("all clauses", clauses, 11);
    }

    /** "As many V (and N behind peace, breach) as there are SIDES". */
    private static void asManyAsSides() {
        for (String clause : new String[] {"peace", "breach", "piece a 0 parts 1 worth"}) {
            for (int sides = 2; sides <= 3; sides++) {
                String head = "sides " + sides + ";" + clause;
                String right = " 7".repeat(sides);
                ok(head + right + ";", 2);
                String few = " 7".repeat(sides - 1);
                C.fault(head + few + ";", 1, head.length() + few.length());
                C.fault(head + right + " 7;", 1, head.length() + right.length() + 1);
                C.fault(head + ";", 1, head.length());
            }
        }
        C.fault("sides 2;piece a 0 parts 1 worth 7 7 -7;", 1, 36);
        C.fault("sides 2;piece a 0 parts 1 worth 7 -;", 1, 35);
        C.fault("sides 2;piece a 0 parts 1 worth 7 - -7;", 1, 36);
        C.fault("sides 2;peace 7 -7;", 1, 16);
    }

    /** A number at the end of head: from low to high, and nothing else, told by a call then. */
    private static void bounds(String head, String tail, int low, int high, int[] call) {
        int[] tried = {0, 1, low - 1, low, high, high + 1, 10, 100, 1000, 9999};
        for (int n : tried) {
            if (n >= low && n <= high) {
                StepAway x = Check.of(head + n + tail);
                int got = call.length == 1 ? x.told(call[0]) : x.piece(call[0], call[1]);
                C.due(head + n + tail, got, n);
            } else if (n >= 0) {
                C.fault(head + n + tail, 2, head.length());
                C.fault(head + n, 2, head.length());
            }
        }
        boolean isWorth = call.length == 2 && call[1] >= 10;
        if (!isWorth) {
            C.fault(head + "-" + low + tail, 1, head.length());
        }
        C.fault(head + "10000" + tail, 1, head.length());
    }

    /** "Bounds": sides 2 .. 3; a piece's SIDE 0 .. sides - 1, parts 1 .. 9, V 0 .. 999; and so on. */
    private static void boundsOfNumbers() {
        bounds("sides ", ";", 2, 3, new int[] {0});
        for (int sides = 2; sides <= 3; sides++) {
            String head = "sides " + sides + ";";
            String zeros = " 0".repeat(sides);
            String worth = " worth" + zeros + ";";
            bounds(head + "piece a ", " parts 1" + worth, 0, sides - 1, new int[] {0, 0});
            bounds(head + "piece a 0 parts ", worth, 1, 9, new int[] {0, 1});
            bounds(head + "first ", ";", 0, sides - 1, new int[] {5});
            for (int i = 0; i < sides; i++) {
                String ahead = "0 ".repeat(i);
                String behind = " 0".repeat(sides - 1 - i) + ";";
                String piece = head + "piece a 0 parts 1 worth ";
                bounds(piece + ahead, behind, 0, 999, new int[] {0, 10 + i});
                bounds(head + "peace " + ahead, behind, 0, 999, new int[] {10 + i});
                bounds(head + "breach " + ahead, behind, 0, 999, new int[] {20 + i});
                String least = piece + ahead + "-999" + behind;
                C.due(least, Check.of(least).piece(0, 10 + i), -999);
                C.fault(piece + ahead + "-1000" + behind, 2, piece.length() + ahead.length() + 1);
                String nothing = piece + ahead + "- \n 0" + behind;
                C.due(nothing, Check.of(nothing).piece(0, 10 + i), 0);
            }
            for (int parts = 1; parts <= 9; parts++) {
                String piece = head + "piece a 1 parts " + parts + worth;
                bounds(piece + "left a ", ";", 0, parts - 1, new int[] {0, 2});
            }
        }
        bounds("sides 2;day ", ";", 0, 99, new int[] {2});
        bounds("sides 2;lump ", ";", 1, 3, new int[] {3});
        String[] modes = {"turns", "any", "once"};
        for (int mode = 0; mode < 3; mode++) {
            C.due(modes[mode], Check.of("sides 2;mode " + modes[mode] + ";").told(4), mode);
        }
        C.fault("sides 2;mode turn;", 1, 13);
        C.fault("sides 2;mode onces;", 1, 13);
        C.fault("sides 2;mode ;", 1, 13);
        C.fault("sides 2;mode 0;", 1, 13);
    }

    private static String pieces(int many) {
        StringBuilder text = new StringBuilder();
        for (int k = 0; k < many; k++) {
            text.append("piece ").append((char) ('a' + k)).append(" 1 parts 1 worth ").append(k)
                    .append(" 0;");
        }
        return text.toString();
    }

    /** "At most 6 PIECES, numbered from 0 as they come"; "ROOM: .. at its first WORD". */
    private static void atMostSixPieces() {
        for (int many = 0; many <= 6; many++) {
            StepAway x = Check.of("sides 2;" + pieces(many));
            C.due("pieces", x.told(1), many);
            C.due("states", x.told(7), 1 << many);
            for (int k = 0; k < many; k++) {
                C.due("as they come", x.piece(k, 10), k);
            }
            C.due("none behind the last", x.piece(many, 10), -2000);
        }
        String six = "sides 2;" + pieces(6);
        for (String more : new String[] {"piece", "piece g 1 parts 1 worth 0 0;", "piece a", "piece ;",
            "piece 5", "piece abcdefghi"}) {
            C.fault(six + more, 4, six.length());
            C.fault(six + "pairs;\n" + more, 4, six.length() + 7);
        }
        C.fault(six + "piec", 1, six.length());
    }

    /** "the product of all (parts and 1) is at most 400". */
    private static void productOf400() {
        int[][] fitting = {{9, 9, 3}, {3, 9, 9}, {4, 4, 1, 1, 1, 1}, {7, 4, 9}, {9, 7, 4}, {9, 9}};
        int[] states = {400, 400, 400, 400, 400, 100};
        for (int i = 0; i < fitting.length; i++) {
            C.due("states", Check.of("sides 2;" + pieces(fitting[i])).told(7), states[i]);
        }
        int[][] above = {{9, 9, 4}, {8, 8, 4}, {9, 9, 3, 1}, {4, 4, 1, 1, 1, 2}, {6, 6, 8}, {9, 9, 9}};
        for (int[] parts : above) {
            String text = "sides 2;" + pieces(parts);
            String upTo = text.substring(0, text.lastIndexOf(" worth"));
            C.fault(text, 2, upTo.length() - 1);
            C.fault(upTo, 2, upTo.length() - 1);
        }
    }

    private static String pieces(int[] parts) {
        StringBuilder text = new StringBuilder();
        for (int k = 0; k < parts.length; k++) {
            text.append("piece ").append((char) ('a' + k)).append(" 1 parts ").append(parts[k])
                    .append(" worth 0 0;");
        }
        return text.toString();
    }

    /** "W: any WORD". */
    private static void anyWordNames() {
        String[] words = {"sides", "piece", "parts", "worth", "whole", "left", "peace", "breach",
            "day", "lump", "mode", "turns", "any", "once", "first", "pairs"};
        for (String word : words) {
            ok("sides 2;piece " + word + " 0 parts 2 worth 0 0;left " + word + " 1;whole " + word
                    + ";", 4);
        }
        for (char letter = 'a'; letter <= 'z'; letter++) {
            StringBuilder text = new StringBuilder("sides 2;");
            for (int length = 1; length <= 6; length++) {
                text.append("piece ").append(String.valueOf(letter).repeat(length))
                        .append(" 0 parts 1 worth 0 0;");
            }
            ok(text.toString(), 7);
            C.fault("sides 2;piece " + letter + " 0 parts 1 worth 0 0;whole " + letter + letter, 5,
                    42);
        }
    }

    /** "the first come to as TOKENS are read one by one". */
    private static void firstFaultComeTo() {
        C.fault("sides 4 x", 2, 6);
        C.fault("sides 4", 2, 6);
        C.fault("sides 2;day 100 day", 2, 12);
        C.fault("sides 2;day 1;day 100;", 3, 14);
        C.fault("sides 2;day 1;day", 3, 14);
        C.fault("sides 2;whole b 5", 5, 14);
        C.fault("sides 2;left b 99999", 5, 13);
        C.fault("sides 2;" + A + "left a 3;left a 3;", 2, 43);
        C.fault("sides 2;" + A + "left a 2;left a 3;", 3, 50);
        C.fault("sides 2;" + A + "piece a 9 parts 99", 3, 42);
        C.fault("sides 2;piece a 2 parts 99", 2, 16);
        C.fault("sides 2;piece a 1 parts 99 warth", 2, 24);
        C.fault("sides 2;piece a 1 ports 99", 1, 18);
    }

    /** "of one TOKEN the least KIND": a run that is too long is no N out of bounds, no W unknown. */
    private static void leastKindOfOneToken() {
        C.fault("sides 99999;", 1, 6);
        C.fault("sides 2;day 99999;", 1, 12);
        C.fault("sides 2;whole abcdefghi;", 1, 14);
        C.fault("sides 2;left abcdefghi 0;", 1, 13);
        C.fault("sides 2;whole 5;", 1, 14);
        C.fault("sides 2;" + A + "piece aaaaaaaaa", 1, 42);
        String wide = "sides 2;piece a 0 parts 9 worth 0 0;piece b 0 parts 9 worth 0 0;piece c 0 parts ";
        C.fault(wide + "10;", 2, wide.length());
        C.fault(wide + "0;", 2, wide.length());
    }

    /** "TWICE": told again with the same number, or as it is when it isn't told, too. */
    private static void toldTwice() {
        String[] once = {"peace 0 0;", "breach 0 0;", "day 0;", "lump 1;", "mode turns;", "first 0;",
            "pairs;"};
        for (String clause : once) {
            for (String other : once) {
                String text = "sides 2;" + clause + other;
                if (clause.equals(other)) {
                    C.fault(text, 3, 8 + clause.length());
                    C.fault("sides 2;" + clause + A + other, 3, 8 + clause.length() + A.length());
                } else {
                    ok(text, 3);
                    C.fault(text + clause, 3, text.length());
                    C.fault(text + other, 3, text.length());
                }
            }
        }
        String both = "sides 2;piece a 0 parts 3 worth 1 1;piece b 0 parts 3 worth 1 1;";
        for (String clause : new String[] {"whole %s;", "left %s 0;"}) {
            String a = clause.replace("%s", "a");
            String b = clause.replace("%s", "b");
            ok(both + a + b, 5);
            C.fault(both + a + b + a, 3, (both + a + b).length() + a.indexOf('a'));
            C.fault(both + a + b + b, 3, (both + a + b).length() + b.indexOf(" b") + 1);
        }
        ok(both + "whole a;left a 0;left b 0;whole b;", 7);
        C.fault(both + "piece b", 3, both.length() + 6);
        C.fault("sides 2;sides 2;", 1, 8);
        StepAway x = new StepAway();
        String all = "sides 2;" + A + "whole a;left a 1;peace 1 1;breach 1 1;day 1;lump 1;mode any;"
                + "first 1;pairs;";
        for (int times = 0; times < 3; times++) {
            C.due("a new text is told once", Check.matter(x, all), 11);
            C.due("again in one text", Check.matter(x, all + "whole a;"), -1);
            C.due("twice", x.fault(0), 3);
        }
    }

    /** "UNKNOWN: a W behind whole, left that is no PIECE": not one that comes later, either. */
    private static void unknownPieces() {
        C.fault("sides 2;whole a;" + A, 5, 14);
        C.fault("sides 2;left a 0;" + A, 5, 13);
        C.fault("sides 2;" + A + "whole aa;", 5, 42);
        C.fault("sides 2;piece aa 0 parts 1 worth 1 1;left a 0;", 5, 42);
        StepAway x = Check.of("sides 2;" + A);
        C.due("nor one of the matter ahead", Check.matter(x, "sides 2;whole a;"), -1);
        C.due("unknown", x.fault(0), 5);
        C.due("nor one of a matter with a fault", Check.matter(x, "sides 2;" + A + "left a 3;"), -1);
        C.due("no such", Check.matter(x, "sides 2;left a 0;"), -1);
        C.due("unknown", x.fault(0), 5);
    }

    /** "how many clauses (sides, too)". */
    private static void clausesCounted() {
        ok("sides 2;", 1);
        StringBuilder most = new StringBuilder("sides 3;");
        for (int k = 0; k < 6; k++) {
            char name = (char) ('a' + k);
            most.append("piece ").append(name).append(" 0 parts 1 worth 0 0 0;whole ").append(name)
                    .append(";left ").append(name).append(" 0;");
        }
        most.append("peace 0 0 0;breach 0 0 0;day 0;lump 1;mode turns;first 0;pairs;");
        ok(most.toString(), 26);
        StepAway x = Check.of(most.toString());
        C.due("clauses", x.count(0), 26);
        Check.matter(x, "sides 2;day");
        C.due("with a fault it stays", x.count(0), 26);
        Check.matter(x, "sides 2;");
        C.due("clauses", x.count(0), 1);
    }

    /** "NONE with a FAULT (it stays)"; "Of the latest matter() .. 0 without (and ahead of any)". */
    private static void aFaultStays() {
        StepAway x = new StepAway();
        C.due("ahead of any", x.fault(0), 0);
        C.due("ahead of any", x.fault(1), -1);
        C.due("the empty text", x.matter(), -1);
        C.due("its kind", x.fault(0), 1);
        C.due("its place", x.fault(1), 0);
        C.due("a new object's matter stays", x.told(0), 2);
        C.due("a matter", Check.matter(x, "sides 3;piece a 2 parts 4 worth 1 2 3;day 7;"), 3);
        C.due("no kind", x.fault(0), 0);
        C.due("no place", x.fault(1), -1);
        C.due("another fault", Check.matter(x, "sides 2;piece b 0 parts 2 worth 5 5;day 100;"), -1);
        C.due("its kind", x.fault(0), 2);
        C.due("its place", x.fault(1), 40);
        Check.judge(x, "1", 0);
        x.find(4, 0);
        C.due("no other call changes it", x.fault(0), 2);
        C.due("no other call changes it", x.fault(1), 40);
        int[] told = {3, 1, 7, 1, 0, 0, 0, 5};
        for (int what = 0; what < told.length; what++) {
            C.due("the matter stays: told(" + what + ")", x.told(what), told[what]);
        }
        C.due("the matter stays: its SIDE", x.piece(0, 0), 2);
        C.due("the matter stays: its parts", x.piece(0, 1), 4);
        C.due("the matter stays: its worth", x.piece(0, 12), 3);
        C.due("the matter stays: BEGIN", x.corner(0), 4);
    }

    /** "What find() and judge() told, and DID, are none then (the latest STEP of telling is 0)". */
    private static void aMatterForgets() {
        String text = "sides 2;" + A + "peace 9 9;";
        StepAway x = Check.of(text);
        C.due("found", x.find(3, 0), 5);
        C.due("judged", Check.judge(x, "10101", 0), 1);
        C.due("did", x.did(999, 0, 3, 1, 1), 0);
        C.due("put right", x.right(999, 0, 0), 1);
        C.due("an earlier one can't be", x.did(998, 0, 3, 1, 1), -2);
        C.due("the same matter again", Check.matter(x, text), 3);
        C.due("no row", x.row(0, 0), -1);
        for (int k = 0; k <= 5; k++) {
            C.due("no states of it", x.along(k), -1);
        }
        for (int what = 0; what < 4; what++) {
            C.due("nothing judged", x.judged(what), -1);
        }
        C.due("nothing done", x.count(1), 0);
        C.due("nothing put right", x.count(2), 0);
        C.due("nothing to be put right", x.right(0, 0, 1), -2);
        C.due("all fits", x.fit(0, 999), (1L << 41) - 1);
        C.due("the latest STEP of telling is 0", x.did(0, 0, 3, 1, 1), 0);
    }

    /** "Bounds (and what isn't told)": as if new, whatever the matter ahead of it told. */
    private static void whatIsntTold() {
        StepAway x = new StepAway();
        String head = "sides 3;piece a 2 parts 3 worth 1 1 1;piece b 1 parts 2 worth 1 1 1;";
        int[] full = {3, 2, 9, 3, 2, 2, 1, 12, -1, -1, 7, 8, 9};
        int[] bare = {3, 2, 0, 1, 0, 0, 0, 12, -1, -1, 0, 0, 0};
        for (int times = 0; times < 3; times++) {
            Check.matter(x, head + "peace 7 8 9;breach 4 5 6;day 9;lump 3;mode once;first 2;pairs;"
                    + "whole a;left a 2;whole b;left b 1;");
            for (int what = 0; what < full.length; what++) {
                C.due("told(" + what + ")", x.told(what), full[what]);
            }
            for (int k = 0; k < 2; k++) {
                C.due("left", x.piece(k, 2), 2 - k);
                C.due("whole", x.piece(k, 3), 1);
                C.due("breach", x.told(20 + k), 4 + k);
            }
            C.due("END", x.corner(1), 6);
            Check.matter(x, head);
            for (int what = 0; what < bare.length; what++) {
                C.due("untold: told(" + what + ")", x.told(what), bare[what]);
            }
            for (int k = 0; k < 2; k++) {
                C.due("none left", x.piece(k, 2), 0);
                C.due("not whole", x.piece(k, 3), 0);
                C.due("no breach", x.told(20 + k), 0);
            }
            C.due("END", x.corner(1), 0);
            C.due("another one, so that each comes behind each", Check.matter(x, "sides 2;"), 1);
        }
    }

    /** "NONE for others", "NONE for another what", "(-2000 for V)". */
    private static void othersAreNone() {
        StepAway x = Check.of("sides 2;" + A + "peace 5 6;breach 7 8;");
        int[] told = {2, 1, 0, 1, 0, 0, 0, 4, -1, -1, 5, 6, -1, -1, -1, -1, -1, -1, -1, -1, 7, 8};
        int[] piece = {0, 3, 0, 0, -1, -1, -1, -1, -1, -1, 1, 1, -2000};
        for (int what : WILD) {
            boolean low = what >= 0 && what < told.length;
            C.due("told(" + what + ")", x.told(what), low ? told[what] : -1);
            boolean of = what >= 0 && what < piece.length;
            C.due("piece(0, " + what + ")", x.piece(0, what), of ? piece[what] : -1);
            C.due("fault(" + what + ")", x.fault(what), what == 0 ? 0 : -1);
            C.due("corner(" + what + ")", x.corner(what), what == 0 ? 3 : what == 1 ? 0 : -1);
            C.due("count(" + what + ")", x.count(what), what == 0 ? 4 : what > 0 && what < 4 ? 0 : -1);
            if (what != 0) {
                for (int of0 = 0; of0 < 4; of0++) {
                    C.due("piece(" + what + ", " + of0 + ")", x.piece(what, of0), -1);
                }
                for (int i = 10; i < 13; i++) {
                    C.due("piece(" + what + ", " + i + ")", x.piece(what, i), -2000);
                }
                C.due("piece(" + what + ", 13)", x.piece(what, 13), -1);
            }
        }
        StepAway three = Check.of("sides 3;peace 1 2 3;breach 4 5 6;");
        for (int i = 0; i < 3; i++) {
            C.due("peace", three.told(10 + i), 1 + i);
            C.due("breach", three.told(20 + i), 4 + i);
        }
        C.due("told(13)", three.told(13), -1);
        C.due("told(23)", three.told(23), -1);
    }

    /** Numbers at which something could wrap around, and their neighbours. */
    static final int[] WILD = wild();

    private static int[] wild() {
        int[] roots = {0, 10, 20, 40, 60, 100, 128, 256, 400, 512, 700, 999, 1000, 2000, 32768, 65536,
            1 << 24, 1 << 30, Integer.MAX_VALUE, Integer.MIN_VALUE, -100000, -65536, -256, -10};
        int[] all = new int[roots.length * 31];
        for (int i = 0; i < all.length; i++) {
            all[i] = roots[i / 31] + i % 31 - 5;
        }
        return all;
    }
}
