/** Promises 13, 14 and what a TEXT tells. */
final class TextTest {
    public static void main(String[] args) {
        Check c = new Check("TextTest");
        faults(c);
        limits(c);
        room(c);
        told(c);
        broken(c);
        words(c);
        c.end();
    }

    private static void fault(Check c, String text, int place) {
        SweetWaits x = new SweetWaits();
        c.due("text of '" + text + "'", Check.text(x, text), place == -1 ? 0 : -6);
        c.due("fault of '" + text + "'", x.fault(), place);
        c.due("count(5)", x.count(5), 0);
        c.due("count(10)", x.count(10), place == -1 ? 0 : 1);
        c.due("count(1)", x.count(1), place == -1 ? 1 : 0);
    }

    private static void faults(Check c) {
        fault(c, "", 0);
        fault(c, "    ", 4);
        fault(c, "in", -1);
        fault(c, "  in  ", -1);
        fault(c, " chance  5 ;in", -1);
        fault(c, "chance20ifwit=3", 8);
        fault(c, "chance20if wit=3", -1);
        fault(c, "in;", 3);
        fault(c, "in ; ", 5);
        fault(c, ";in", 0);
        fault(c, "in in", 3);
        fault(c, "in 5", 3);
        fault(c, "In", 0);
        fault(c, "ins", 0);
        fault(c, "in\tif wit=1", 2);
        fault(c, "in" + (char) 200, 2);
        fault(c, "chance", 6);
        fault(c, "chance ;in", 7);
        fault(c, "chance -5", 7);
        fault(c, "chance 5 5", 9);
        fault(c, "chance 5+", 9);
        fault(c, "chance 5+*", 9);
        fault(c, "chance 1000", -1);
        fault(c, "chance 1001", 7);
        fault(c, "chance 0000000000000000000001000", -1);
        fault(c, "chance 99999999999999999999999", 7);
        fault(c, "chance [5", 9);
        fault(c, "chance [5)", 9);
        fault(c, "chance (5)", 7);
        fault(c, "chance []", 8);
        fault(c, "chance [wit = 3]", 12);
        fault(c, "chance if", 7);
        fault(c, "chance 5 if", 11);
        fault(c, "in if wit", 9);
        fault(c, "in if wit 3", 10);
        fault(c, "in if wit=", 10);
        fault(c, "in if wit=3=4", 11);
        fault(c, "in if wit<3 and", 15);
        fault(c, "in if wit<3 or or", 15);
        fault(c, "in if not", 9);
        fault(c, "in if not not (wit > 3)", -1);
        fault(c, "in if (wit) = 3", 10);
        fault(c, "in if (wit = 3", 14);
        fault(c, "in if (wit = 3]", 14);
        fault(c, "in if [wit] = 3", -1);
        fault(c, "in if [wit = 3]", 11);
        fault(c, "in if ()", 7);
        fault(c, "in if wit=3 if wit=4", 12);
        fault(c, "in if witty=3", 6);
        fault(c, "in if waits=3", 6);
        fault(c, "in;later waited;waits minute;chance dealt;in", -1);
    }

    private static void limits(Check c) {
        fault(c, "in" + ";in".repeat(11), -1);
        fault(c, "in" + ";in".repeat(11) + " ;  in", 39);
        fault(c, "in" + ";in".repeat(11) + ";", 36);
        fault(c, "in" + ";in".repeat(11) + ";7", 36);
        fault(c, "chance 1" + "+1".repeat(49), -1);
        fault(c, "chance 1" + "+1".repeat(50), 107);
        fault(c, "chance 1" + "+1".repeat(48) + ";in if wit=3", 111 + 4);
        fault(c, "chance 1" + "+1".repeat(47) + ";in if wit=3", -1);
        fault(c, "chance 1" + "+1".repeat(49) + "+[5]", 8 + 98 + 2);
        fault(c, "chance " + "[".repeat(8) + "1" + "]".repeat(8), -1);
        fault(c, "chance " + "[".repeat(9) + "1" + "]".repeat(9), 15);
        fault(c, "in if " + "(".repeat(8) + "wit=1" + ")".repeat(8), -1);
        fault(c, "in if " + "(".repeat(9) + "wit=1" + ")".repeat(9), 14);
        fault(c, "in if " + "(".repeat(5) + "[[[wit]]]=1" + ")".repeat(5), -1);
        fault(c, "in if " + "(".repeat(5) + "[[[[wit]]]]=1" + ")".repeat(5), 14);
        fault(c, "in if " + "(".repeat(5) + "[[[wit]]]=[[[1]]]" + ")".repeat(5) + " and ((((((((wit=1))))))))", -1);
        fault(c, "in if " + "not ".repeat(95) + "wit=1", -1);
        fault(c, "in if" + " ".repeat(390) + "1=1 ", -1);
        fault(c, "in if " + "not(".repeat(9) + "1=1" + ")".repeat(9), 6 + 32 + 3);
    }

    private static void room(Check c) {
        SweetWaits x = new SweetWaits();
        for (int i = 0; i < 10; i++) {
            c.due("text", Check.text(x, "in if wit=" + i), i);
        }
        c.due("the 11th", Check.text(x, "if"), -5);
        c.due("the tape is empty", x.count(5), 0);
        c.due("it was not read", x.fault(), -1);
        c.due("status", x.status(), -5);
        c.due("-5 ahead of -6", x.text(), -5);
        c.due("count(9)", x.count(9), 2);
        SweetWaits y = new SweetWaits();
        Check.text(y, "in if");
        for (int i = 0; i < 10; i++) {
            y.image(0);
            c.due("fault stays", y.fault(), 5);
        }
        Check.text(y, "in");
        c.due("fault is gone", y.fault(), -1);
    }

    /** A child of house 2, wit 3, likes 4 .. waited 57 in text's "waits" for it, of 200 at most. */
    private static int waits(String text) {
        SweetWaits x = new SweetWaits();
        x.terms(2, 20);
        x.child(2, 3, 4, 5, 6, 7);
        x.fact(0, 6, 8);
        x.fact(0, 7, 9);
        x.dealt(0, 2);
        x.minute(0, 57, 1);
        int number = Check.text(x, text);
        return number < 0 ? number : x.waits(number, 0);
    }

    private static void told(Check c) {
        c.due("no head", waits("in"), 0);
        c.due("sum", waits("waits 10+4*5-2"), 28);
        c.due("left to right", waits("waits 100-50-20"), 30);
        c.due("left to right", waits("waits 100/7*7"), 98);
        c.due("cut towards 0", waits("waits 50+[0-7]/2"), 47);
        c.due("cut towards 0", waits("waits 50+7/[0-2]"), 47);
        c.due("brackets", waits("waits 2*[3+[4-1]*5]"), 36);
        c.due("above", waits("waits 201"), 200);
        c.due("below", waits("waits 0-1"), 0);
        c.due("the last that holds", waits("waits 1;waits 2;waits 3 if wit=4"), 2);
        c.due("the last that holds", waits("waits 1;chance 9;waits 2 if wit=3;in"), 2);
        c.due("none holds", waits("waits 1 if wit=4"), 0);
        c.due("less", waits("waits 7 if wit<3"), 0);
        c.due("less", waits("waits 7 if wit<4"), 7);
        c.due("more", waits("waits 7 if wit>3"), 0);
        c.due("more", waits("waits 7 if wit>2"), 7);
        c.due("not", waits("waits 7 if not wit=3"), 0);
        c.due("not not", waits("waits 7 if not not wit=3"), 7);
        c.due("not binds closest", waits("waits 7 if not wit=4 and wit=3"), 7);
        c.due("not binds closest", waits("waits 7 if not wit=3 or wit=3"), 7);
        c.due("and ahead of or", waits("waits 7 if wit=3 or wit=4 and wit=5"), 7);
        c.due("and ahead of or", waits("waits 7 if [1]=1 and 1=2 or 2=2"), 7);
        c.due("brackets of tests", waits("waits 7 if (wit=3 or wit=4) and wit=5"), 0);
        c.due("not within not", waits("waits 7 if not (not (wit=3))"), 7);
        c.due("not within not", waits("waits 7 if not (not (wit=4))"), 0);
        c.due("each head by itself", waits("waits 7;later 9;chance 8;in"), 7);
        c.due("three and", waits("waits 7 if 1=1 and 1=2 and 1=1"), 0);
        c.due("three or", waits("waits 7 if 1=2 or 1=1 or 1=2"), 7);
        c.due("not of brackets", waits("waits 7 if not (1=1 and 1=2)"), 7);
        c.due("not of brackets", waits("waits 7 if not (1=1 or 1=2)"), 0);
    }

    private static void broken(Check c) {
        c.due("divided by 0", waits("waits 5;waits 9/0"), 5);
        c.due("divided by 0", waits("waits 5;waits 9/[wit-3]"), 5);
        c.due("a test divided by 0", waits("waits 5;waits 9 if 1/0=1"), 5);
        c.due("not of broken", waits("waits 5;waits 9 if not 1/0=1"), 5);
        c.due("or behind broken", waits("waits 5;waits 9 if 1/0=1 or 1=1"), 5);
        c.due("or ahead of broken", waits("waits 5;waits 9 if 1=1 or 1/0=1"), 9);
        c.due("and behind broken", waits("waits 5;waits 9 if not (1/0=1 and 1=2)"), 5);
        c.due("and ahead of broken", waits("waits 5;waits 9 if not (1=2 and 1/0=1)"), 9);
        c.due("or asks on", waits("waits 5;waits 9 if 1=2 or 1/0=1"), 5);
        c.due("and asks on", waits("waits 5;waits 9 if 1=1 and 1/0=1"), 5);
        c.due("a thousand million", waits("waits 5;waits 9 if 1000*1000*1000=1000*1000*1000"), 9);
        c.due("one more", waits("waits 5;waits 9 if 1000*1000*1000+1>0"), 5);
        c.due("and back", waits("waits 5;waits 1000*1000*1000+1-1000*1000*1000"), 5);
        c.due("one less", waits("waits 5;waits 9 if 0-1000*1000*1000<0"), 9);
        c.due("two less", waits("waits 5;waits 9 if 0-1000*1000*1000-1<0"), 5);
        c.due("far beyond", waits("waits 5;waits 9 if 1000*1000*1000*1000*1000>0"), 5);
        c.due("a broken sum under a test", waits("waits 5;waits 9/0 if 1=1"), 5);
        c.due("sum that wraps", waits("waits 5;waits 1000*1000*1000*1000"), 5);
    }

    private static void words(Check c) {
        String[] words = {"house", "wit", "likes", "hungry", "nursery", "way", "kept", "broken", "dealt", "waited",
            "minute"};
        int[] values = {2, 3, 4, 5, 6, 7, 8, 9, 2, 57, 0};
        for (int i = 0; i < words.length; i++) {
            c.due(words[i], waits("waits 1+" + words[i]), 1 + values[i]);
        }
        SweetWaits x = new SweetWaits();
        x.child(0, 0, 0, 0, 0, 0);
        Check.text(x, "waits 5+waited;chance 50+minute");
        c.due("not tried", x.waits(0, 0), 5);
        x.minute(0, 30, 0);
        c.due("took", x.waits(0, 0), 35);
        x.minute(0, 0, 2);
        c.due("had to go", x.waits(0, 0), 5);
        c.due("minute", x.chance(0, 0, 19), 69);
    }
}
