/** Boundaries of TEXTS: Terms II, promises 13, 14. */
final class EdgesOfTexts {
    private EdgesOfTexts() {
    }

    static void run(Edges e) {
        howMany(e);
        tokens(e);
        blanks(e);
        clauses(e);
        heads(e);
        tests(e);
        sums(e);
        words(e);
        numbers(e);
        parts(e);
        brackets(e);
        faults(e);
        asked(e);
        broken(e);
        holds(e);
        groups(e);
        text(e);
        fault(e);
    }

    /** A TEXT that is one. */
    private static void good(Edges e, String text) {
        SweetWaits x = new SweetWaits();
        e.due("text '" + text + "'", Check.text(x, text), 0);
        e.due("no fault of '" + text + "'", x.fault(), -1);
    }

    /** A TEXT that can't be, with its FAULT. */
    private static void bad(Edges e, String text, int place) {
        SweetWaits x = new SweetWaits();
        e.due("text '" + text + "'", Check.text(x, text), -6);
        e.due("fault of '" + text + "'", x.fault(), place);
        e.due("no text '" + text + "'", x.count(1), 0);
    }

    private static void howMany(Edges e) {
        e.by("II", "TEXTS, 10 at most");
        SweetWaits x = new SweetWaits();
        for (int i = 0; i < 9; i++) {
            e.due("text " + i, Check.text(x, "in"), i);
        }
        e.due("no text 9 yet", x.run(9, 0), -2);
        e.due("the tenth", Check.text(x, "in"), 9);
        e.due("text 9", x.run(9, 0), 0);
        e.due("the eleventh", Check.text(x, "in"), -5);
        e.due("no text 10", x.run(10, 0), -2);
        e.due("ten", x.count(1), 10);
    }

    private static void tokens(Edges e) {
        e.by("II", "longest rows of letters a .. z");
        good(e, "in if wit=1");
        bad(e, "inif wit=1", 0);
        bad(e, "in if wit=1an", 11);
        // Next to a and z on either side: ` and {; and A, Z.
        bad(e, "in`", 2);
        bad(e, "in{", 2);
        bad(e, "inA", 2);
        bad(e, "inZ", 2);
        bad(e, "In", 0);
        bad(e, "chance way{", 10);
        bad(e, "chance z", 7);
        bad(e, "chance wita", 7);
        bad(e, "chance witz", 7);
        e.by("II", "of digits");
        good(e, "chance 09");
        good(e, "chance 90if wit=1");
        bad(e, "chance 9 0", 9);
        bad(e, "chance 5a", 8);
        // Next to 0 and 9 on either side: / and :.
        bad(e, "chance 5:", 8);
        bad(e, "chance 5/", 9);
        bad(e, "chance :", 7);
        e.by("II", "single other bytes");
        bad(e, "in;;in", 3);
        good(e, "in if((1=1))");
        bad(e, "in if 1==1", 8);
        bad(e, "in" + (char) 0, 2);
        bad(e, "in" + (char) 127, 2);
        bad(e, "in" + (char) 128, 2);
        bad(e, "in" + (char) 255, 2);
        bad(e, "" + (char) 255, 0);
        // 32, 59, 105 with the highest bit are no blank, ';', 'i'.
        bad(e, "in" + (char) (128 + 32), 2);
        bad(e, "in" + (char) (128 + 59) + "in", 2);
        bad(e, (char) (128 + 105) + "n", 0);
    }

    private static void blanks(Edges e) {
        e.by("II", "any blanks (32) between");
        good(e, "  in  if  (  1  =  1  )  ;  in  ");
        good(e, "in;chance[1]+2*3if(1<2)");
        bad(e, "in" + (char) 31, 2);
        bad(e, "in!", 2);
        bad(e, "in\t", 2);
        bad(e, "in\n", 2);
        bad(e, "i n", 0);
        bad(e, "chance 1 0", 9);
    }

    private static void clauses(Edges e) {
        e.by("II", "12 at most (FAULT at the 13th's first TOKEN)");
        String eleven = "in;".repeat(11);
        good(e, eleven + "in");
        bad(e, eleven + "in;in", 36);
        bad(e, eleven + "in ;  chance 5", 39);
        bad(e, eleven + "in;", 36);
        bad(e, eleven + "in;  ", 38);
        bad(e, eleven + "in;;", 36);
        bad(e, eleven, 33);
        bad(e, eleven + "in in", 36);
        SweetWaits x = Edges.kids(1);
        e.due("the twelfth counts", Check.text(x, "chance 1;".repeat(11) + "chance 7"), 0);
        e.due("chance", x.chance(0, 0, 0), 7);
    }

    private static void heads(Edges e) {
        e.by("II", "CLAUSE: HEAD [\"if\" TEST].");
        good(e, "in if 1=1");
        bad(e, "in if", 5);
        bad(e, "if 1=1", 0);
        bad(e, "in 1=1", 3);
        bad(e, "in if 1=1 if 1=1", 10);
        e.by("II", "HEAD: \"chance\" SUM | \"waits\" SUM | \"later\" SUM | \"in\".");
        good(e, "chance 1;waits 1;later 1;in");
        bad(e, "chance", 6);
        bad(e, "waits ", 6);
        bad(e, "later;", 5);
        bad(e, "in 1", 3);
        bad(e, "wait 1", 0);
        bad(e, "waited 1", 0);
        bad(e, "chances 1", 0);
        bad(e, "chanc 1", 0);
        bad(e, "5", 0);
    }

    private static void tests(Edges e) {
        e.by("II", "TEST: BOTH {\"or\" BOTH}. BOTH: PLAIN {\"and\" PLAIN}.");
        good(e, "in if 1=1 or 1=1 or 1=1 and 1=1 and 1=1");
        bad(e, "in if or 1=1", 6);
        bad(e, "in if 1=1 or", 12);
        bad(e, "in if 1=1 or and 1=1", 13);
        bad(e, "in if 1=1 and", 13);
        bad(e, "in if 1=1 and or 1=1", 14);
        e.by("II", "PLAIN: \"not\" PLAIN | \"(\" TEST \")\"");
        good(e, "in if not 1=1");
        good(e, "in if not not not (not (1=1))");
        bad(e, "in if not", 9);
        bad(e, "in if 1=1 not", 10);
        bad(e, "in if 1=not 1", 8);
        bad(e, "in if (1=1", 10);
        bad(e, "in if 1=1)", 9);
        bad(e, "in if (1)=1", 8);
        bad(e, "in if ()", 7);
        bad(e, "in if (1=1]", 10);
        bad(e, "in if (1=1)=1", 11);
        good(e, "in if " + "not ".repeat(97) + " 1=1");
        bad(e, "in if " + "not ".repeat(97), 6 + 4 * 97);
        e.by("II", "SUM (\"&lt;\" | \"&gt;\" | \"=\") SUM.");
        good(e, "in if 1<1 and 1>1 and 1=1");
        bad(e, "in if 1", 7);
        bad(e, "in if 1 1", 8);
        bad(e, "in if 1<", 8);
        bad(e, "in if 1<>1", 8);
        bad(e, "in if 1=1=1", 9);
        bad(e, "in if <1", 6);
        bad(e, "in if 1!1", 7);
    }

    private static void sums(Edges e) {
        e.by("II", "SUM: TERM {(\"+\" | \"-\") TERM}. TERM: PART {(\"*\" | \"/\") PART}.");
        good(e, "chance 1+1-1*1/1");
        bad(e, "chance +1", 7);
        bad(e, "chance -1", 7);
        bad(e, "chance 1+", 9);
        bad(e, "chance 1+-1", 9);
        bad(e, "chance 1*", 9);
        bad(e, "chance 1*/1", 9);
        bad(e, "chance *1", 7);
        bad(e, "chance 1,1", 8);
        bad(e, "chance 1.1", 8);
        e.by("II", "PART: NUMBER (to 1,000) | \"[\" SUM \"]\" | \"house\" | \"wit\" | \"likes\" | \"hungry\" | \"nursery\"");
        for (String word : new String[] {"house", "wit", "likes", "hungry", "nursery", "way", "kept", "broken", "dealt",
            "minute", "waited"}) {
            good(e, "chance " + word);
            bad(e, "chance " + word + "s", 7);
            bad(e, "chance " + word.substring(1), 7);
            bad(e, "chance " + word.substring(0, word.length() - 1), 7);
        }
        bad(e, "chance [1", 9);
        bad(e, "chance 1]", 8);
        bad(e, "chance []", 8);
        bad(e, "chance [1)", 9);
        bad(e, "chance (1)", 7);
        bad(e, "chance [1=1]", 9);
        bad(e, "chance in", 7);
        bad(e, "chance not", 7);
    }

    /** Each word is its own: the least and the most that it can be. */
    private static void words(Edges e) {
        e.by("II", "| \"way\" | \"kept\" | \"broken\" | \"dealt\" | \"minute\" | \"waited\"");
        String[] words = {"house", "wit", "likes", "hungry", "nursery", "way", "kept", "broken", "dealt", "waited"};
        int[] most = {5, 9, 9, 9, 7, 23, 9, 9, 2, 200};
        SweetWaits x = Edges.kids(1);
        x.terms(2, 20);
        for (String word : words) {
            Check.text(x, "waits " + word + ";chance 1+minute;later " + word);
        }
        for (int slot = 0; slot < words.length; slot++) {
            for (int word = 0; word < words.length; word++) {
                e.due(words[word] + " of none", x.waits(word, 0), 0);
            }
            put(x, slot, most[slot]);
            for (int word = 0; word < words.length; word++) {
                e.due(words[word] + " by " + words[slot], x.waits(word, 0), word == slot ? most[slot] : 0);
            }
            put(x, slot, 0);
        }
        e.due("minute", x.chance(0, 0, 19), 20);
    }

    private static void put(SweetWaits x, int slot, int value) {
        if (slot < 8) {
            x.fact(0, slot, value);
        } else if (slot == 8) {
            x.dealt(0, value);
        } else {
            x.minute(0, value, 1);
        }
    }

    private static void numbers(Edges e) {
        e.by("II", "NUMBER (to 1,000)");
        good(e, "chance 0");
        good(e, "chance 999");
        good(e, "chance 1000");
        bad(e, "chance 1001", 7);
        bad(e, "chance 1010", 7);
        bad(e, "chance 10000", 7);
        good(e, "chance 00001000");
        bad(e, "chance 00001001", 7);
        // These wrap around to something small as ints, longs.
        bad(e, "chance 4294967296", 7);
        bad(e, "chance 4294967301", 7);
        bad(e, "chance 18446744073709551616", 7);
        bad(e, "chance " + "9".repeat(393), 7);
        good(e, "chance " + "0".repeat(393));
        SweetWaits x = Edges.kids(1);
        x.terms(2, 20);
        Check.text(x, "waits 1000/10;chance 0;in if 1000>999 and 1000=001000");
        e.due("a thousand", x.waits(0, 0), 100);
        e.due("a thousand", x.group(0, 0), 1);
    }

    private static void parts(Edges e) {
        e.by("II", "50 PARTS that are NUMBERS and words (FAULT at the 51st)");
        String fifty = "chance wit" + "+1".repeat(49);
        good(e, fifty);
        bad(e, fifty + "+1", 109);
        bad(e, fifty + "+wit", 109);
        bad(e, fifty + "+ 2000", 110);
        bad(e, fifty + "+[[1]]", 111);
        bad(e, fifty + "+", 109);
        bad(e, fifty + ";chance 5", 116);
        good(e, fifty + ";in");
        bad(e, fifty + ";in if 1=1", 115);
        good(e, "chance " + "[".repeat(8) + "1" + "]".repeat(8) + "+[1]".repeat(49));
        bad(e, "chance 1" + "+1".repeat(48) + " if 1=1", 8 + 96 + 6);
        good(e, "chance 1" + "+1".repeat(47) + " if 1=1");
        bad(e, "chance 1;".repeat(11) + "chance 1" + "+1".repeat(39), 99 + 8 + 77);
        good(e, "chance 1;".repeat(11) + "chance 1" + "+1".repeat(38));
        SweetWaits x = Edges.kids(1);
        Check.text(x, fifty);
        e.due("all fifty count", x.chance(0, 0, 0), 49);
        SweetWaits full = Edges.kids(1);
        for (int i = 0; i < 10; i++) {
            e.due("51 in none", Check.text(full, fifty + "-" + i), -6);
            Check.text(full, "chance " + i + "+1".repeat(49));
            e.due("fifty in each of ten", full.chance(i, 0, 0), 49 + i);
        }
        String deep = "chance 1-[".repeat(1) + "1-[".repeat(6) + "1" + "+1".repeat(42) + "]".repeat(7);
        e.due("fifty within brackets", Check.text(x, deep), 1);
        e.due("1 less 1 less .. 43", x.chance(1, 0, 0), 1);
        String turned = "chance 1-[".repeat(1) + "1-[".repeat(5) + "1" + "+1".repeat(42) + "]".repeat(6);
        e.due("49 within brackets", Check.text(x, turned), 2);
        e.due("1 less 1 less .. 43", x.chance(2, 0, 0), 43);
    }

    private static void brackets(Edges e) {
        e.by("II", "8 brackets of both kinds within one another (FAULT at the 9th) at most");
        String open = "(((((((((";
        String close = ")))))))))";
        for (int round = 0; round <= 9; round++) {
            String test = "in if " + open.substring(0, round) + "[[[[[[[[[".substring(0, 9 - round) + "1"
                + "]]]]]]]]]".substring(0, 9 - round) + "=1" + close.substring(0, round);
            bad(e, test, 14);
        }
        for (int round = 0; round <= 8; round++) {
            String test = "in if " + open.substring(0, round) + "[[[[[[[[".substring(0, 8 - round) + "1"
                + "]]]]]]]]".substring(0, 8 - round) + "=1" + close.substring(0, round);
            good(e, test);
        }
        good(e, "in if ((((((((1=1)))))))) and ((((((((1=1))))))))");
        good(e, "chance [[[[[[[[1]]]]]]]]+[[[[[[[[1]]]]]]]]");
        bad(e, "chance [[[[[[[[1]]]]]]]]+[[[[[[[[[1]]]]]]]]]", 33);
        bad(e, "in if ((((((((1=[1]))))))))", 16);
        good(e, "in if (((((((1=[1])))))))");
        bad(e, "in if not(not(not(not(not(not(not(not(not(1=1)))))))))", 41);
        good(e, "in if not(not(not(not(not(not(not(not(not 1=1))))))))");
        good(e, "chance [[[[[[[[1]]]]]]]];in if ((((((((1=1))))))))");
        SweetWaits x = Edges.kids(1);
        e.due("nine", Check.text(x, "chance 10-[9-[8-[7-[6-[5-[4-[3-[2-[1]]]]]]]]]"), -6);
        e.due("eight", Check.text(x, "chance 9-[8-[7-[6-[5-[4-[3-[2-[1]]]]]]]]"), 0);
        e.due("all eight count", x.chance(0, 0, 0), 5);
    }

    private static void faults(Edges e) {
        e.by("II", "FAULT: the first TOKEN that can't go on there (the end's: the TEXT's length).");
        bad(e, "", 0);
        bad(e, "in;", 3);
        bad(e, "in;   ", 6);
        bad(e, "chance   ", 9);
        bad(e, "in if wit   ", 12);
        bad(e, "in   ?  in", 5);
        bad(e, "chance 5 chance ? ;;", 9);
        bad(e, "chance 2000 chance ? ;;", 7);
        bad(e, "in if wit=1 or wit=2000 or wit=3000", 19);
        bad(e, "chance 5;in;nothing", 12);
    }

    private static void asked(Edges e) {
        e.by("II", "(waited: its TENTHS, 0 if it is not TRIED, had to GO)");
        SweetWaits x = Edges.kids(1);
        x.terms(2, 20);
        Check.text(x, "waits waited;in if waited=0;chance waited-150");
        e.due("not tried", x.waits(0, 0), 0);
        e.due("not tried", x.group(0, 0), 1);
        x.minute(0, 200, 0);
        e.due("took", x.waits(0, 0), 200);
        e.due("took", x.group(0, 0), 0);
        e.due("took", x.chance(0, 0, 3), 50);
        x.minute(0, 199, 1);
        e.due("cut off", x.waits(0, 0), 199);
        x.minute(0, 0, 2);
        e.due("had to go", x.waits(0, 0), 0);
        e.due("had to go", x.group(0, 0), 1);
        x.minute(0, 200, 1);
        x.minute(0, 0, 3);
        e.due("not tried again", x.waits(0, 0), 0);
        e.by("II", "and a minute (0, if none is told)");
        SweetWaits y = Edges.kids(1);
        Check.text(y, "waits 5+minute;in if minute=0;chance 10+minute;later 5+minute");
        e.due("chance in 19", y.chance(0, 0, 19), 29);
        e.due("waits", y.waits(0, 0), 5);
        e.due("in", y.group(0, 0), 1);
        e.due("chance in 0", y.chance(0, 0, 0), 10);
        y.minute(0, 195, 0);
        y.likely(0);
        e.due("in", y.group(0, 0), 1);
        y.run(0, 2);
        e.due("later", y.world(0, 2), 5);
        e.due("waits", y.parts(0, 0, -1, 0, 0) + y.waits(0, 0), 5);
    }

    /** What "waits" tells of a child of wit 3, up to 200; 5, if the SUM or TEST that follows is BROKEN. */
    private static int waits(String clause) {
        SweetWaits x = new SweetWaits();
        x.child(0, 3, 0, 0, 0, 0);
        x.terms(2, 20);
        Check.text(x, "waits 5;waits " + clause);
        return x.waits(0, 0);
    }

    private static void broken(Edges e) {
        e.by("II", "Beyond 1,000,000,000 either way");
        String most = "1000*1000*1000";
        String least = "[0-1000]*1000*1000";
        e.due("times, just", waits("7 if " + most + ">0"), 7);
        e.due("times, below, just", waits("7 if " + least + "<0"), 7);
        e.due("times, beyond", waits("7 if 1000*1000*1000*2>0"), 5);
        e.due("times, below, beyond", waits("7 if [0-2]*1000*1000*1000<0"), 5);
        e.due("times itself", waits("7 if [" + most + "]*[" + most + "]>0"), 5);
        e.due("times 4.3, by which an int wraps around", waits("7 if " + most + "*4+1000*1000*295>0"), 5);
        e.due("plus, just", waits("7 if " + most + "-1+1=" + most), 7);
        e.due("plus, beyond", waits("7 if " + most + "+1>0"), 5);
        e.due("plus, below, just", waits("7 if " + least + "+0<0"), 7);
        e.due("plus, below, beyond", waits("7 if " + least + "+[0-1]<0"), 5);
        e.due("less, just", waits("7 if 1-" + most + "-1=" + least), 7);
        e.due("less, below, beyond", waits("7 if 0-" + most + "-1<0"), 5);
        e.due("less, beyond", waits("7 if " + most + "-[0-1]>0"), 5);
        e.due("through, just", waits("7 if " + most + "/[0-1]=" + least), 7);
        e.due("the most by itself", waits("7 if " + least + "*[0-1]=" + most), 7);
        e.due("beyond and back", waits("[" + most + "+1]/1000/1000/1000+9"), 5);
        e.due("beyond and back", waits("7+" + most + "+" + most + "-" + most + "-" + most), 5);
        e.due("beyond in the second SUM", waits("7 if 0<" + most + "+1"), 5);
        e.due("the most is nearest", waits(most), 200);
        e.due("the least is nearest", waits(least), 0);
        e.by("II", "or divided by 0, a SUM, a TEST is BROKEN");
        e.due("by 0", waits("7/0"), 5);
        e.due("by 1", waits("7/1"), 7);
        e.due("0 by 0", waits("0/0"), 5);
        e.due("by what comes to 0", waits("7/[wit-3]"), 5);
        e.due("by what comes to -1", waits("7/[wit-4]+14"), 7);
        e.due("by 1/2, cut", waits("7/[1/2]"), 5);
        e.due("0 times broken", waits("7+0*[1/0]"), 5);
        e.due("in a TEST", waits("7 if 1/0=1/0"), 5);
        e.due("in a TEST", waits("7 if 1/1=1/1"), 7);
        e.due("not", waits("7 if not 1/0=1"), 5);
        e.due("not not", waits("7 if not not 1/0=1"), 5);
        e.due("in brackets", waits("7 if (1/0=1)"), 5);
        e.by("II", "/ is cut towards 0");
        e.due("7/2", waits("7/2"), 3);
        e.due("-7/2", waits("10+[0-7]/2"), 7);
        e.due("7/-2", waits("10+7/[0-2]"), 7);
        e.due("-7/-2", waits("[0-7]/[0-2]"), 3);
        e.due("-1/2", waits("10+[0-1]/2"), 10);
        e.due("1/2", waits("10+1/2"), 10);
        e.due("8/2", waits("8/2"), 4);
        e.due("-8/2", waits("10+[0-8]/2"), 6);
    }

    private static void holds(Edges e) {
        e.by("II", "(\"or\", \"and\" ask what stands behind only if it can still matter)");
        String[] values = {"1=2", "1=1", "1/0=1"};
        // 0 not so, 1 so, 2 BROKEN: by what is ahead and what is behind.
        int[][] or = {{0, 1, 2}, {1, 1, 1}, {2, 2, 2}};
        int[][] and = {{0, 0, 0}, {0, 1, 2}, {2, 2, 2}};
        for (int one = 0; one < 3; one++) {
            for (int other = 0; other < 3; other++) {
                String a = values[one];
                String b = values[other];
                truth(e, a + " or " + b, or[one][other]);
                truth(e, a + " and " + b, and[one][other]);
                for (int last = 0; last < 3; last++) {
                    String c = values[last];
                    int both = and[one][other];
                    int later = and[other][last];
                    truth(e, a + " and " + b + " or " + c, both == 2 ? 2 : or[both][last]);
                    truth(e, a + " or " + b + " and " + c, or[one][later]);
                    truth(e, "(" + a + " or " + b + ") and " + c, or[one][other] == 2 ? 2 : and[or[one][other]][last]);
                    truth(e, a + " and (" + b + " or " + c + ")", and[one][or[other][last]]);
                    truth(e, a + " or " + b + " or " + c, or[one][other] == 2 ? 2 : or[or[one][other]][last]);
                    truth(e, a + " and " + b + " and " + c, both == 2 ? 2 : and[both][last]);
                }
            }
        }
        for (int one = 0; one < 3; one++) {
            for (int other = 0; other < 3; other++) {
                int turned = one == 2 ? 2 : 1 - one;
                truth(e, "not " + values[one] + " and " + values[other], and[turned][other]);
                truth(e, "not " + values[one] + " or " + values[other], or[turned][other]);
                truth(e, "not not " + values[one] + " and not not " + values[other], and[one][other]);
                truth(e, "not not " + values[one] + " or not not " + values[other], or[one][other]);
            }
        }
        e.by("II", "A CLAUSE HOLDS, if its \"if\" (if it has one) is so, and neither that nor its SUM is BROKEN");
        e.due("without an if", waits("7"), 7);
        e.due("so", waits("7 if wit=3"), 7);
        e.due("not so", waits("7 if wit=4"), 5);
        e.due("a broken SUM", waits("7/0 if wit=3"), 5);
        e.due("a broken TEST", waits("7 if wit/0=3"), 5);
        e.due("less, just not", waits("7 if wit<3"), 5);
        e.due("less, just", waits("7 if wit<4"), 7);
        e.due("more, just not", waits("7 if wit>3"), 5);
        e.due("more, just", waits("7 if wit>2"), 7);
        e.due("the same, just not", waits("7 if wit=2"), 5);
        e.by("II", "Told by a HEAD is what the last CLAUSE with it that HOLDS tells.");
        e.due("the last", waits("7;waits 8"), 8);
        e.due("the last that holds", waits("7;waits 8 if wit=4"), 7);
        e.due("the last that is not broken", waits("7;waits 8/0"), 7);
        e.due("not the greatest", waits("7;waits 6"), 6);
        e.due("one behind a broken one", waits("7/0;waits 8"), 8);
        e.due("one behind another head's broken one", waits("7;chance 1/0;waits 8"), 8);
        e.due("one behind a broken if", waits("7 if 1/0=1;waits 8"), 8);
        SweetWaits x = Edges.kids(1);
        Check.text(x, "chance 1;chance 2;chance 3;waits 3");
        Check.text(x, "chance 4");
        Check.text(x, "in");
        e.due("a longer text ahead of it is another one", x.chance(1, 0, 0), 4);
        e.due("a longer text ahead of it is another one", x.waits(1, 0), 0);
        e.due("a longer text ahead of it is another one", x.chance(2, 0, 0), 50);
        Check.text(x, "chance 5;in;chance 6");
        Check.text(x, "chance 1+3");
        e.due("no clause of it stays", x.group(4, 0), 0);
        e.due("no clause of it stays", x.chance(4, 0, 0), 4);
        e.due("other heads are others", waits("7;chance 8;later 9;in"), 7);
        e.due("another head's if", waits("7;in if wit=4;chance 8 if 1/0=1"), 7);
    }

    /** Whether a TEST is so (1), not so (0), BROKEN (2): itself and turned. */
    private static void truth(Edges e, String test, int want) {
        e.due(test, waits("7 if " + test), want == 1 ? 7 : 5);
        e.due("not (" + test + ")", waits("7 if not (" + test + ")"), want == 0 ? 7 : 5);
    }

    private static void groups(Edges e) {
        e.by("II", "(NONE in place of a TEXT: all)");
        SweetWaits x = Edges.kids(3);
        x.fact(1, 1, 1);
        Check.text(x, "in if wit=1");
        Check.text(x, "chance 5");
        e.due("all", x.group(-1, 0), 3);
        e.due("one", x.group(0, 0), 1);
        e.due("without in", x.group(1, 0), 0);
        e.due("no such", x.group(2, 0), -1);
        e.due("no such", x.group(-2, 0), -1);
        e.due("NONE is no law", x.chance(-1, 0, 0), -1);
        e.by("II", "all CHILDREN of whom \"in\" HOLDS");
        Check.text(x, "in if 1/[wit-1]=0-1");
        e.due("broken for one", x.group(2, 0), 2);
        e.due("the first", x.member(2, 0), 0);
        e.due("the last", x.member(2, 1), 2);
        Check.text(x, "in;in if wit=9;in if 1/0=1");
        e.due("one clause is enough", x.group(3, 0), 3);
    }

    private static void text(Edges e) {
        e.by("13", "The TAPE, which is empty then, becomes a TEXT: its number.");
        SweetWaits x = new SweetWaits();
        e.due("a text", Check.text(x, "in"), 0);
        e.due("the tape is empty", x.count(5), 0);
        e.due("status", x.status(), 0);
        e.due("the next", Check.text(x, "in"), 1);
        e.by("13", "-6 (blanks alone: FAULT at the end)");
        e.due("one blank", Check.text(x, " "), -6);
        e.due("its fault", x.fault(), 1);
        e.due("many blanks", Check.text(x, " ".repeat(33)), -6);
        e.due("its fault", x.fault(), 33);
        e.due("no byte", x.text(), -6);
        e.due("its fault", x.fault(), 0);
        e.due("status", x.status(), -6);
        e.due("not one", Check.text(x, "chance"), -6);
        e.due("the tape is empty", x.count(5), 0);
        e.due("it has no number", x.count(1), 2);
        e.by("13", "-5 (ahead of reading it; the TAPE is empty then, too)");
        for (int i = 2; i < 10; i++) {
            e.due("text", Check.text(x, "in"), i);
        }
        e.due("a tenth was taken", x.fault(), -1);
        e.due("one that is none", Check.text(x, "nothing"), -5);
        e.due("it was not read", x.fault(), -1);
        e.due("the tape is empty", x.count(5), 0);
        e.due("one that is one", Check.text(x, "in"), -5);
        e.due("the tape is empty", x.count(5), 0);
        e.due("no byte", x.text(), -5);
        e.due("by -5", x.count(9), 3);
        e.due("by -6", x.count(10), 4);
    }

    private static void fault(Edges e) {
        e.by("14", "FAULT of the latest text() that read a TEXT: its place; NONE without.");
        SweetWaits x = new SweetWaits();
        e.due("ahead of any", x.fault(), -1);
        Check.text(x, "in if");
        e.due("at the end", x.fault(), 5);
        Check.tape(x, "?");
        e.due("feeding leaves it", x.fault(), 5);
        x.row(0);
        x.image(0);
        x.back(0);
        e.due("others leave it", x.fault(), 5);
        x.text();
        e.due("at the beginning", x.fault(), 0);
        for (int i = 0; i < 9; i++) {
            Check.text(x, "in");
            e.due("none", x.fault(), -1);
        }
        Check.text(x, "in in");
        e.due("another one", x.fault(), 3);
        x.image(0);
        Check.text(x, "in");
        e.due("none", x.fault(), -1);
        Check.text(x, "in in");
        e.due("one that was not read leaves it", x.fault(), -1);
        x.back(0);
        Check.text(x, "chance ]");
        e.due("one that was read", x.fault(), 7);
        Check.text(x, "in");
        e.due("none", x.fault(), -1);
    }
}
