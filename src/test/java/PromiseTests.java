// The promises of ../shared/DOC.md, one after the other: ordinary inputs, edges and wrong inputs.
// The answers that are due were worked out by hand from the document.
public final class PromiseTests {
    private static final int UNKNOWN = -1;
    private static final int BAD_VALUE = -2;
    private static final int FULL = -3;
    private static final int NOT_POSSIBLE = -4;
    private static final int NONE = -5;

    private static int wrong = 0;
    private static int asked = 0;

    private static void due(String call, long got, long want) {
        asked++;
        if (got != want) {
            wrong++;
            StackTraceElement[] stack = new Throwable().getStackTrace();
            System.out.println("PromiseTests line " + stack[1].getLineNumber() + ", " + stack[1].getMethodName()
                    + ": " + call + " answered " + got + ", due is " + want);
        }
    }

    public static void main(String[] args) {
        constants();
        promise1NewObject();
        promise2Say();
        promise3TakeBack();
        promise4Hear();
        promise5Hold();
        promise6Stick();
        promise7Set();
        promise8Run();
        termsBitsAndLosers();
        termsAnswersAndWords();
        termsHeldClock();
        termsStuck();
        termsStuckBetweenTalks();
        termsFailures();
        termsFreeTicks();
        promise9Type();
        promise10ClearText();
        promise11PerformFaults();
        promise11Perform();
        promise12Stopped();
        promise13Undo();
        promise13UndoOfEachAct();
        promise14Keep();
        promise15Restore();
        promise16Speaker();
        promise17Message();
        promise18Listener();
        promise19Bit();
        promise20Winners();
        promise21EmptyIn();
        promise22IfRun();
        promise23Count();
        System.out.println("PromiseTests: " + asked + " answers, " + wrong + " not as due");
        if (wrong != 0) System.exit(1);
    }

    private static void typeText(PulledWires x, String text) {
        x.clearText();
        for (int i = 0; i < text.length(); i++) {
            x.type(text.charAt(i));
        }
    }

    private static int performText(PulledWires x, String text) {
        typeText(x, text);
        return x.perform();
    }

    // By texts of eleven runs, as an object is used for at most 512 calls.
    private static void runTo(PulledWires x, int clock) {
        typeText(x, "run 99;run 99;run 99;run 99;run 99;run 99;run 99;run 99;run 99;run 99;run 99");
        int left = clock;
        for (; left >= 1089; left -= 1089) {
            x.perform();
        }
        for (; left > 0; left -= Math.min(300, left)) {
            x.run(Math.min(300, left));
        }
        due("clock", x.count(0), clock);
    }

    private static void constants() {
        due("UNKNOWN", PulledWires.UNKNOWN, UNKNOWN);
        due("BAD_VALUE", PulledWires.BAD_VALUE, BAD_VALUE);
        due("FULL", PulledWires.FULL, FULL);
        due("NOT_POSSIBLE", PulledWires.NOT_POSSIBLE, NOT_POSSIBLE);
        due("NONE", PulledWires.NONE, NONE);
    }

    private static void promise1NewObject() {
        PulledWires x = new PulledWires();
        int[] counts = {0, 0, 0, 0, 0, 0, 0, 0, 0, 0, 0, 2, 2, 10, 0, 0};
        for (int what = 0; what < counts.length; what++) {
            due("count(" + what + ")", x.count(what), counts[what]);
        }
        for (int i = 0; i < 4; i++) {
            for (int what = 0; what <= 6; what++) {
                due("speaker", x.speaker(i, what), 0);
            }
            due("message", x.message(i, 0, 0), UNKNOWN);
            due("listener 0", x.listener(i, 0), NONE);
            due("listener 1", x.listener(i, 1), 0);
            due("listener 2", x.listener(i, 2), 0);
            due("listener 3", x.listener(i, 3), 0);
            due("listener 4", x.listener(i, 4), NONE);
        }
        due("bit", x.bit(0, 0), NONE);
        due("winners", x.winners(), 0);
        due("emptyIn", x.emptyIn(), 0);
        due("ifRun", x.ifRun(0, 300), 0);
        due("stopped", x.stopped(0), NONE);
        due("stopped", x.stopped(1), NONE);
        due("undo", x.undo(), NONE);
        due("restore", x.restore(), NONE);
        due("perform", x.perform(), -100);
        // Two objects share nothing.
        PulledWires y = new PulledWires();
        y.say(0, 1, 2, 3);
        y.hear(0, 1);
        due("speaker of another", x.speaker(0, 0), 0);
        due("listener of another", x.listener(0, 0), NONE);
    }

    private static void promise2Say() {
        PulledWires x = new PulledWires();
        due("say", x.say(0, 0, 0, NONE), 1);
        due("say", x.say(3, 127, 255, 255), 1);
        due("say", x.say(3, 0, 0, 0), 2);
        due("count", x.count(7), 3);
        due("history", x.count(14), 3);
        due("no speaker", x.say(-1, 0, 0, 0), UNKNOWN);
        due("no speaker", x.say(4, 0, 0, 0), UNKNOWN);
        due("no speaker first", x.say(4, 128, -1, 256), UNKNOWN);
        due("no speaker", x.say(Integer.MIN_VALUE, 0, 0, 0), UNKNOWN);
        due("no speaker", x.say(Integer.MAX_VALUE, 0, 0, 0), UNKNOWN);
        due("address", x.say(0, -1, 0, 0), BAD_VALUE);
        due("address", x.say(0, 128, 0, 0), BAD_VALUE);
        due("address", x.say(0, NONE, 0, 0), BAD_VALUE);
        due("word", x.say(0, 0, -1, 0), BAD_VALUE);
        due("word", x.say(0, 0, 256, 0), BAD_VALUE);
        due("word", x.say(0, 0, NONE, 0), BAD_VALUE);
        due("second", x.say(0, 0, 0, -1), BAD_VALUE);
        due("second", x.say(0, 0, 0, -4), BAD_VALUE);
        due("second", x.say(0, 0, 0, -6), BAD_VALUE);
        due("second", x.say(0, 0, 0, 256), BAD_VALUE);
        due("second", x.say(0, 0, 0, Integer.MAX_VALUE), BAD_VALUE);
        due("history is as before", x.count(14), 3);
        due("line is as before", x.speaker(0, 0), 1);
        for (int i = 2; i <= 5; i++) {
            due("say", x.say(0, i, i + 10, i + 20), i);
        }
        due("full", x.say(0, 0, 0, 0), FULL);
        due("bad value ahead of full", x.say(0, 0, 0, 256), BAD_VALUE);
        due("place 0", x.message(0, 0, 2), NONE);
        due("place 4", x.message(0, 4, 0), 5);
        due("place 4", x.message(0, 4, 1), 15);
        due("place 4", x.message(0, 4, 2), 25);
        due("others", x.say(1, 0, 0, 0), 1);
        // Who says something while a talk goes on takes part in the next start alone.
        PulledWires y = new PulledWires();
        y.say(0, 64, 0, NONE);
        y.run(2);
        y.say(1, 1, 0, NONE);
        due("in the talk", y.speaker(1, 1), 0);
        y.run(1);
        due("no loser", y.speaker(0, 3), 0);
        due("wire", y.bit(0, 0), 1);
    }

    private static void promise3TakeBack() {
        PulledWires x = new PulledWires();
        due("no speaker", x.takeBack(-1), UNKNOWN);
        due("no speaker", x.takeBack(4), UNKNOWN);
        due("none", x.takeBack(0), NONE);
        due("history", x.count(14), 0);
        x.say(0, 1, 2, NONE);
        x.say(0, 3, 4, NONE);
        x.say(0, 5, 6, NONE);
        due("takeBack", x.takeBack(0), 2);
        due("history", x.count(14), 4);
        due("the last one went", x.message(0, 1, 0), 3);
        due("the last one went", x.message(0, 2, 0), UNKNOWN);
        x.run(2);
        due("in the talk", x.speaker(0, 1), 1);
        due("takeBack in the talk", x.takeBack(0), 1);
        due("the first one", x.takeBack(0), NOT_POSSIBLE);
        due("it is there", x.speaker(0, 0), 1);
        // A speaker that lost is out of the talk: its first message can be taken back.
        PulledWires y = new PulledWires();
        y.hear(0, 1);
        y.say(0, 1, 0, NONE);
        y.say(1, 64, 0, NONE);
        due("ahead of the start", y.run(1), 0);
        y.run(2);
        due("lost", y.speaker(1, 3), 1);
        due("a loser's first one", y.takeBack(1), 0);
        due("a loser's line", y.takeBack(1), NONE);
        due("a winner's first one", y.takeBack(0), NOT_POSSIBLE);
        due("comes", y.run(17), 1);
        due("empty line", y.takeBack(0), NONE);
        // Failures of the first message go with it.
        PulledWires z = new PulledWires();
        z.say(2, 9, 9, NONE);
        z.run(11);
        due("failures of the first", z.speaker(2, 6), 1);
        due("takeBack", z.takeBack(2), 0);
        due("failures of the first", z.speaker(2, 6), 0);
        due("failures", z.speaker(2, 4), 1);
        z.say(2, 9, 9, NONE);
        due("failures of a new first", z.speaker(2, 6), 0);
    }

    private static void promise4Hear() {
        PulledWires x = new PulledWires();
        due("hear", x.hear(0, 0), 1);
        due("hear", x.hear(3, 127), 2);
        due("again", x.hear(3, 127), NONE);
        due("another one has it", x.hear(1, 127), NOT_POSSIBLE);
        due("another one has it", x.hear(3, 0), NOT_POSSIBLE);
        due("another address", x.hear(3, 126), 2);
        due("free again", x.hear(1, 127), 3);
        due("history", x.count(14), 4);
        due("none", x.hear(2, NONE), NONE);
        due("none is not shared", x.hear(1, NONE), 2);
        due("address", x.listener(1, 0), NONE);
        due("none", x.hear(1, NONE), NONE);
        due("no listener", x.hear(-1, 0), UNKNOWN);
        due("no listener", x.hear(4, 0), UNKNOWN);
        due("no listener first", x.hear(4, 128), UNKNOWN);
        due("address", x.hear(0, -1), BAD_VALUE);
        due("address", x.hear(0, 128), BAD_VALUE);
        due("address", x.hear(0, -4), BAD_VALUE);
        due("address", x.hear(0, Integer.MIN_VALUE), BAD_VALUE);
        due("address is as before", x.listener(0, 0), 0);
    }

    private static void promise5Hold() {
        PulledWires x = new PulledWires();
        due("so already", x.hold(0, 0), NONE);
        due("history", x.count(14), 0);
        due("hold", x.hold(0, 9), 0);
        due("hold", x.hold(0, 3), 9);
        due("so already", x.hold(0, 3), NONE);
        due("hold", x.hold(0, 0), 3);
        due("history", x.count(14), 3);
        due("no listener", x.hold(-1, 1), UNKNOWN);
        due("no listener", x.hold(4, 1), UNKNOWN);
        due("no listener first", x.hold(4, 10), UNKNOWN);
        due("ticks", x.hold(0, -1), BAD_VALUE);
        due("ticks", x.hold(0, 10), BAD_VALUE);
        due("ticks", x.hold(0, NONE), BAD_VALUE);
        due("is as before", x.listener(0, 1), 0);
    }

    private static void promise6Stick() {
        PulledWires x = new PulledWires();
        due("stick", x.stick(0, 1), 1);
        due("stick", x.stick(3, 99), 2);
        due("in place of", x.stick(3, 50), 2);
        due("the same again is an act", x.stick(3, 50), 2);
        due("history", x.count(14), 4);
        due("ticks", x.listener(3, 2), 50);
        due("no listener", x.stick(-1, 1), UNKNOWN);
        due("no listener", x.stick(4, 1), UNKNOWN);
        due("no listener first", x.stick(4, 0), UNKNOWN);
        due("ticks", x.stick(0, 0), BAD_VALUE);
        due("ticks", x.stick(0, 100), BAD_VALUE);
        due("ticks", x.stick(0, NONE), BAD_VALUE);
        x.run(1);
        due("stuck no more", x.listener(0, 2), 0);
        due("a tick less", x.listener(3, 2), 49);
        due("stick", x.stick(1, 7), 2);
    }

    private static void promise7Set() {
        PulledWires x = new PulledWires();
        int[] most = {20, 9, 99};
        int[] first = {2, 2, 10};
        for (int which = 0; which < 3; which++) {
            due("so already", x.set(which, first[which]), NONE);
            due("too little", x.set(which, 0), BAD_VALUE);
            due("too much", x.set(which, most[which] + 1), BAD_VALUE);
            due("none", x.set(which, NONE), BAD_VALUE);
            due("is as before", x.count(11 + which), first[which]);
            due("most", x.set(which, most[which]), first[which]);
            due("least", x.set(which, 1), most[which]);
            due("so already", x.set(which, 1), NONE);
            due("is set", x.count(11 + which), 1);
        }
        due("history", x.count(14), 4);
        due("no setting", x.set(-1, 1), UNKNOWN);
        due("no setting", x.set(3, 1), UNKNOWN);
        due("no setting first", x.set(3, 0), UNKNOWN);
        due("no setting", x.set(Integer.MAX_VALUE, 1), UNKNOWN);
    }

    private static void promise8Run() {
        PulledWires x = new PulledWires();
        due("ticks", x.run(0), BAD_VALUE);
        due("ticks", x.run(-1), BAD_VALUE);
        due("ticks", x.run(NONE), BAD_VALUE);
        due("ticks", x.run(301), BAD_VALUE);
        due("ticks", x.run(Integer.MAX_VALUE), BAD_VALUE);
        due("clock", x.count(0), 0);
        due("history", x.count(14), 0);
        due("run", x.run(300), 0);
        due("run", x.run(1), 0);
        due("clock", x.count(0), 301);
        due("history", x.count(14), 2);
        // Three messages of 18 ticks; two free ticks ahead of each start.
        PulledWires y = new PulledWires();
        y.hear(0, 5);
        y.say(0, 5, 1, NONE);
        y.say(0, 5, 2, NONE);
        y.say(1, 5, 1, NONE);
        due("nothing yet", y.run(19), 0);
        due("two at once", y.run(1), 2);
        due("both", y.count(8), 2);
        due("nothing yet", y.run(19), 0);
        due("the third", y.run(1), 1);
        // All of it in one run.
        PulledWires z = new PulledWires();
        z.hear(0, 5);
        z.say(0, 5, 1, NONE);
        z.say(0, 5, 2, NONE);
        z.say(1, 5, 1, NONE);
        due("three", z.run(40), 3);
        // The clock ends at 99999.
        PulledWires end = new PulledWires();
        runTo(end, 99699);
        due("beyond", end.run(300), 0);
        due("clock", end.count(0), 99999);
        due("full", end.run(1), FULL);
        due("bad value first", end.run(0), BAD_VALUE);
        due("bad value first", end.run(301), BAD_VALUE);
        due("undo", end.undo(), 3);
        due("clock", end.count(0), 99699);
        due("to 99998", end.run(299), 0);
        due("full", end.run(2), FULL);
        due("clock", end.count(0), 99998);
        due("to 99999", end.run(1), 0);
    }

    private static void termsBitsAndLosers() {
        // Address 85 is 1010101, then the 0; word 51 is 00110011.
        PulledWires x = new PulledWires();
        x.hear(2, 85);
        x.say(1, 85, 51, NONE);
        x.run(20);
        int[] wire = {1, 0, 1, 0, 1, 0, 1, 0, 0, 0, 0, 1, 1, 0, 0, 1, 1, 0};
        for (int i = 0; i < 18; i++) {
            due("wire " + i, x.bit(17 - i, 0), wire[i]);
            due("place " + i, x.bit(17 - i, 1), i == 8 || i == 17 ? 1 : 0);
            due("clock " + i, x.bit(17 - i, 2), i + 3);
            due("losers " + i, x.bit(17 - i, 3), 0);
        }
        due("no more", x.bit(18, 0), NONE);
        // The lower one wins: three lose by the first bit, at once.
        PulledWires y = new PulledWires();
        y.hear(0, 0);
        y.say(0, 64, 0, NONE);
        y.say(1, 65, 0, NONE);
        y.say(2, 127, 0, NONE);
        y.say(3, 0, 0, NONE);
        y.run(3);
        due("losers", y.bit(0, 3), 3);
        due("talkers", y.count(1), 1);
        due("winner", y.speaker(3, 1), 1);
        due("comes", y.run(17), 1);
        // Those that lost keep their messages and start again: now 64 wins over 65 and 127.
        y.run(2);
        due("talkers", y.count(1), 3);
        y.run(7);
        due("only one", y.count(1), 1);
        due("winner", y.speaker(0, 1), 1);
        due("lost twice", y.speaker(1, 3), 2);
        due("lost twice", y.speaker(2, 3), 2);
        due("lost once", y.speaker(0, 3), 1);
        // The losers of a word: both addresses are the same, the place for an answer is over.
        PulledWires z = new PulledWires();
        z.hear(0, 7);
        z.say(0, 7, 129, NONE);
        z.say(1, 7, 128, NONE);
        z.run(2 + 9 + 7);
        due("both", z.count(1), 2);
        z.run(1);
        due("the last bit of the word", z.count(1), 1);
        due("winner", z.speaker(1, 1), 1);
        due("takes the word", z.run(1), 1);
        due("word", z.listener(0, 4), 128);
        due("clock anew", z.count(6), 0);
    }

    private static void termsAnswersAndWords() {
        PulledWires x = new PulledWires();
        x.hear(1, 33);
        x.say(0, 33, 200, 100);
        x.say(3, 33, 200, NONE);
        x.run(2 + 9);
        due("the address is no word", x.listener(1, 3), 0);
        due("over", x.count(6), 9);
        due("the short one comes", x.run(9), 1);
        due("who came", x.speaker(3, 2), 1);
        due("it left the talk", x.speaker(3, 1), 0);
        due("its line", x.speaker(3, 0), 0);
        due("the other goes on", x.speaker(0, 1), 1);
        due("a word is taken once", x.listener(1, 3), 1);
        due("word", x.listener(1, 4), 200);
        due("the long one comes", x.run(9), 1);
        due("words", x.listener(1, 3), 2);
        due("word", x.listener(1, 4), 100);
        due("nobody is in the talk", x.count(1), 0);
        due("failures", x.speaker(0, 4) + x.speaker(3, 4), 0);
        // Nobody answers a word if the address is taken away ahead of it.
        PulledWires y = new PulledWires();
        y.hear(0, 33);
        y.say(0, 33, 200, NONE);
        y.run(12);
        y.hear(0, NONE);
        due("nothing comes", y.run(8), 0);
        due("failed", y.speaker(0, 4), 1);
        due("wire", y.bit(0, 0), 1);
        due("place", y.bit(0, 1), 1);
        due("talk ended", y.count(1), 0);
        due("no word", y.listener(0, 3), 0);
        // Another listener can take it over: it takes the word.
        PulledWires z = new PulledWires();
        z.hear(0, 33);
        z.say(0, 33, 200, NONE);
        z.run(12);
        z.hear(0, 34);
        z.hear(3, 33);
        due("it comes", z.run(8), 1);
        due("no word", z.listener(0, 4), NONE);
        due("word", z.listener(3, 4), 200);
    }

    private static void termsHeldClock() {
        PulledWires x = new PulledWires();
        x.hear(0, 10);
        x.hold(0, 4);
        x.hold(1, 9);
        x.say(0, 10, 3, NONE);
        due("takes", x.message(0, 0, 4), 26);
        x.run(2 + 7);
        due("not held yet", x.count(3), 0);
        due("a bit", x.count(2), 1);
        x.run(1);
        due("held", x.count(3), 4);
        due("held", x.count(2), 3);
        due("over", x.count(6), 8);
        x.hold(0, 1);
        due("it is held on as told before", x.count(3), 4);
        x.run(3);
        due("held", x.count(3), 1);
        due("held", x.count(2), 3);
        x.run(1);
        due("held no more", x.count(3), 0);
        due("a place", x.count(2), 2);
        due("held ticks are no bits", x.bit(0, 2), 10);
        x.run(1);
        due("the answer", x.bit(0, 2), 15);
        due("over", x.count(6), 9);
        x.run(8);
        due("held as told now", x.count(3), 1);
        due("comes", x.run(2), 1);
        // A listener without the address of the talk holds nothing.
        PulledWires y = new PulledWires();
        y.hear(0, 10);
        y.hold(0, 4);
        y.say(0, 11, 3, NONE);
        y.run(10);
        due("not held", y.count(3), 0);
        due("a place", y.count(2), 2);
    }

    private static void termsStuck() {
        // 96 is 1100000, 32 is 0100000: at the first bit 96 would send a 1, 32 would send a 0.
        PulledWires x = new PulledWires();
        x.hear(0, 32);
        x.say(0, 96, 0, NONE);
        x.say(1, 32, 0, NONE);
        x.run(2);
        x.stick(3, 2);
        due("next", x.count(2), 4);
        x.run(1);
        due("loses", x.speaker(0, 3), 1);
        due("waits", x.speaker(1, 1), 1);
        due("nothing is over", x.count(6), 0);
        due("no bit was sent", x.bit(0, 0), NONE);
        due("stuck ticks", x.count(5), 1);
        x.run(1);
        due("still waits", x.speaker(1, 1), 1);
        due("stuck ticks", x.count(5), 2);
        due("no more stuck", x.listener(3, 2), 0);
        due("next", x.count(2), 1);
        x.run(1);
        due("from 0 again", x.count(5), 0);
        due("goes on", x.count(6), 1);
        // At the second bit 32 would send a 1: the talk ends.
        x.stick(0, 1);
        x.run(1);
        due("lost", x.speaker(1, 3), 1);
        due("no talk", x.count(1), 0);
        due("over", x.count(6), 0);
        due("next", x.count(2), 0);
        due("free", x.count(4), 0);
        x.run(1);
        due("free", x.count(4), 1);
        due("messages stay", x.count(7), 2);
        x.run(1);
        due("they start again", x.count(1), 2);
        // A stuck listener at a held clock and at a place for an answer: all wait.
        PulledWires y = new PulledWires();
        y.hear(0, 127);
        y.hold(0, 2);
        y.say(0, 127, 255, NONE);
        y.run(10);
        y.stick(0, 3);
        y.run(3);
        due("held as before", y.count(3), 2);
        due("nobody lost", y.speaker(0, 3), 0);
        due("in the talk", y.speaker(0, 1), 1);
        y.run(2);
        due("a place", y.count(2), 2);
        y.stick(1, 1);
        due("first", y.count(2), 4);
        y.run(1);
        due("a place", y.count(2), 2);
        due("in the talk", y.speaker(0, 1), 1);
        due("comes", y.run(1 + 8 + 2 + 1), 1);
    }

    private static void termsStuckBetweenTalks() {
        PulledWires x = new PulledWires();
        x.run(5);
        due("free", x.count(4), 5);
        x.stick(0, 3);
        due("free", x.count(4), 5);
        x.run(1);
        due("not free", x.count(4), 0);
        x.run(3);
        due("counted anew", x.count(4), 1);
        // Shaken free: all of them, behind as many ticks as setting 2 tells.
        PulledWires y = new PulledWires();
        y.set(2, 3);
        y.stick(0, 99);
        y.stick(1, 50);
        y.run(2);
        due("stuck", y.listener(0, 2), 97);
        due("stuck", y.listener(1, 2), 48);
        due("not yet", y.count(10), 0);
        y.run(1);
        due("shaken free", y.listener(0, 2), 0);
        due("shaken free", y.listener(1, 2), 0);
        due("shaken", y.count(10), 1);
        due("from 0 again", y.count(5), 0);
        due("next", y.count(2), 0);
        // One behind the other counts over two listeners, not over a gap.
        PulledWires z = new PulledWires();
        z.set(2, 3);
        z.stick(0, 1);
        z.run(1);
        z.stick(1, 1);
        z.run(1);
        due("in a row", z.count(5), 2);
        z.run(1);
        due("a gap", z.count(5), 0);
        z.stick(2, 2);
        z.run(2);
        due("in a row", z.count(5), 2);
        due("not shaken", z.count(10), 0);
        // The setting may come to be less than what was counted.
        z.stick(2, 9);
        z.set(2, 1);
        z.run(1);
        due("or more", z.count(10), 1);
        due("free of it", z.listener(2, 2), 0);
        // Ten at first.
        PulledWires t = new PulledWires();
        t.stick(0, 10);
        t.run(9);
        due("ten", t.count(10), 0);
        t.run(1);
        due("ten", t.count(10), 1);
    }

    private static void termsFailures() {
        // Nobody hears: at the place behind the address all of them fail, each on its own account.
        PulledWires x = new PulledWires();
        x.set(1, 3);
        x.say(0, 4, 1, NONE);
        x.say(1, 4, 2, NONE);
        x.say(1, 5, 3, NONE);
        x.run(11);
        due("failed", x.speaker(0, 4), 1);
        due("failed", x.speaker(1, 4), 1);
        due("of the first", x.speaker(1, 6), 1);
        due("talk ended", x.count(1), 0);
        due("over", x.count(6), 0);
        due("free", x.count(4), 0);
        x.run(11);
        due("of the first", x.speaker(0, 6), 2);
        due("not dropped", x.speaker(0, 5), 0);
        x.run(11);
        due("dropped", x.speaker(0, 5), 1);
        due("dropped", x.speaker(1, 5), 1);
        due("line", x.speaker(0, 0), 0);
        due("line", x.speaker(1, 0), 1);
        due("of the next one", x.speaker(1, 6), 0);
        due("the next one", x.message(1, 0, 0), 5);
        due("failures", x.speaker(1, 4), 3);
        due("came", x.count(8), 0);
        // A setting that falls below what was counted drops at the next failure.
        PulledWires y = new PulledWires();
        y.set(1, 9);
        y.say(0, 4, 1, NONE);
        y.run(33);
        due("of the first", y.speaker(0, 6), 3);
        y.set(1, 1);
        due("it is there", y.speaker(0, 0), 1);
        y.run(11);
        due("dropped", y.speaker(0, 5), 1);
        due("line", y.speaker(0, 0), 0);
        // A message that failed can come at the next start; the next one begins without failures.
        PulledWires z = new PulledWires();
        z.say(0, 4, 1, NONE);
        z.say(0, 4, 2, NONE);
        z.run(11);
        z.hear(0, 4);
        due("comes", z.run(20), 1);
        due("of the first", z.speaker(0, 6), 0);
        due("failures", z.speaker(0, 4), 1);
        due("the next one", z.message(0, 0, 1), 2);
    }

    private static void termsFreeTicks() {
        PulledWires x = new PulledWires();
        x.set(0, 5);
        x.say(0, 4, 1, NONE);
        x.run(4);
        due("not yet", x.count(1), 0);
        due("free", x.count(4), 4);
        x.run(1);
        due("starts", x.count(1), 1);
        due("talks", x.count(9), 1);
        due("no bit yet", x.bit(0, 0), NONE);
        due("in a talk the wires are not free", x.count(4), 0);
        // Free for long already: the start comes with the next tick.
        PulledWires y = new PulledWires();
        y.run(50);
        due("free", y.count(4), 50);
        due("no talk", y.count(9), 0);
        y.say(3, 4, 1, NONE);
        due("not yet", y.count(1), 0);
        y.run(1);
        due("starts", y.speaker(3, 1), 1);
        // A message that is added within a talk waits for the next start.
        PulledWires z = new PulledWires();
        z.set(0, 1);
        z.hear(0, 4);
        z.say(0, 4, 1, NONE);
        z.run(1);
        z.say(1, 4, 1, NONE);
        due("first", z.run(18), 1);
        due("free", z.count(4), 0);
        z.run(1);
        due("second talk", z.count(9), 2);
        due("second", z.speaker(1, 1), 1);
    }

    private static void promise9Type() {
        PulledWires x = new PulledWires();
        for (int i = 1; i <= 80; i++) {
            due("type", x.type((char) (i * 811)), i);
        }
        due("full", x.type('s'), FULL);
        due("length", x.count(15), 80);
        due("no act", x.count(14), 0);
        due("fault", x.perform(), -100);
    }

    private static void promise10ClearText() {
        PulledWires x = new PulledWires();
        due("empty", x.clearText(), 0);
        x.type('s');
        x.type('a');
        due("two", x.clearText(), 2);
        due("length", x.count(15), 0);
        due("empty", x.clearText(), 0);
        due("no act", x.count(14), 0);
        due("perform", x.perform(), -100);
        due("from the beginning", x.type('x'), 1);
    }

    private static void fault(String text, int at) {
        PulledWires x = new PulledWires();
        due("perform " + text, performText(x, text), -100 - at);
        due("history behind " + text, x.count(14), 0);
        due("clock behind " + text, x.count(0), 0);
        due("no stop behind " + text, x.stopped(0), NONE);
    }

    private static void promise11PerformFaults() {
        fault("", 0);
        fault(" ", 0);
        fault(";", 0);
        fault("Say 0 1 2", 0);
        fault("x", 0);
        fault("0", 0);
        fault("s", 1);
        fault("sx", 1);
        fault("st", 2);
        fault("stay", 2);
        fault("stic", 4);
        fault("sticky", 5);
        fault("h", 1);
        fault("hi", 1);
        fault("hearx", 4);
        fault("hea", 3);
        fault("hol 1", 3);
        fault("ru", 2);
        fault("ran", 1);
        fault("run", 3);
        fault("run ", 4);
        fault("run  1", 4);
        fault("run 0", 4);
        fault("run 01", 4);
        fault("run 100", 6);
        fault("run 9 ", 5);
        fault("run 9 1", 5);
        fault("run 9;", 6);
        fault("run 9;;run 9", 6);
        fault("run 9; run 9", 6);
        fault("run 9,run 9", 5);
        fault("run -1", 4);
        fault("run 1a", 5);
        fault("say", 3);
        fault("say 4 1 2", 4);
        fault("say 00 1 2", 5);
        fault("say 12 1 2", 5);
        fault("say 0", 5);
        fault("say 0;", 5);
        fault("say 0 1", 7);
        fault("say 0 1;", 7);
        fault("say 0 128 2", 8);
        fault("say 0 1270 2", 9);
        fault("say 0 200 2", 8);
        fault("say 0 01 2", 7);
        fault("say 0 1 ", 8);
        fault("say 0 1 256", 10);
        fault("say 0 1 300", 10);
        fault("say 0 1 2550", 11);
        fault("say 0 1 2 ", 10);
        fault("say 0 1 2 256", 12);
        fault("say 0 1 2 03", 11);
        fault("say 0 1 2 3 4", 11);
        fault("say 0 1 2 3 ", 11);
        fault("say 0 1 2 x", 10);
        fault("hear 4 1", 5);
        fault("hear 0", 6);
        fault("hear 0 128", 9);
        fault("hear 0 1 2", 8);
        fault("hear 0 -5", 7);
        fault("hold 3 10", 8);
        fault("hold 3 00", 8);
        fault("hold 4 0", 5);
        fault("hold 0 1 1", 8);
        fault("stick 0 0", 8);
        fault("stick 4 1", 6);
        fault("stick 0 100", 10);
        fault("stick 0 99 1", 10);
        // Characters far from ASCII are not allowed, also those whose low byte is a digit or a letter.
        fault("run " + (char) 0x661, 4);
        fault("run 1" + (char) 0x131, 5);
        fault("" + (char) ('r' + 256) + "un 1", 0);
        fault("run 1" + (char) 0, 5);
        // A fault behind good orders: none of these is carried out.
        fault("run 9;hear 0 5;sat", 17);
    }

    private static void promise11Perform() {
        PulledWires x = new PulledWires();
        due("perform", performText(x, "say 3 127 255 254;hear 2 127;hold 2 9;stick 1 99;run 99"), 5);
        due("one act", x.count(14), 1);
        due("clock", x.count(0), 99);
        due("the text stays", x.count(15), 55);
        due("address", x.listener(2, 0), 127);
        due("hold", x.listener(2, 1), 9);
        due("shaken free", x.count(10), 1);
        due("came", x.speaker(3, 2), 1);
        due("word", x.listener(2, 4), 254);
        due("again: some orders do nothing", x.perform(), 5);
        due("clock", x.count(0), 198);
        due("undo", x.undo(), 1);
        due("clock", x.count(0), 99);
        due("undo", x.undo(), 0);
        due("clock", x.count(0), 0);
        due("address", x.listener(2, 0), NONE);
        due("the text is no state", x.count(15), 55);
        // Smallest numbers, and one word alone.
        PulledWires y = new PulledWires();
        due("perform", performText(y, "say 0 0 0;say 0 0 0 0;hear 0 0;hold 0 0;stick 0 1;run 1"), 6);
        due("one word", y.message(0, 0, 2), NONE);
        due("two words", y.message(0, 1, 2), 0);
        due("clock", y.count(0), 1);
        // Orders that do nothing at all: the act is one nevertheless.
        due("nothing", performText(y, "hear 0 0;hold 0 0"), 2);
        due("history", y.count(14), 2);
        // Thirteen orders fill the text.
        PulledWires z = new PulledWires();
        due("many", performText(z, "run 1;run 1;run 1;run 1;run 1;run 1;run 1;run 1;run 1;run 1;run 1;run 1;run 99"), 13);
        due("clock", z.count(0), 111);
        due("length", z.count(15), 78);
        // All numbers of each range, at their edges.
        due("edges", performText(z, "say 0 99 100;say 1 119 199 249;say 2 120 250"), 3);
        due("address", z.message(0, 0, 0), 99);
        due("word", z.message(0, 0, 1), 100);
        due("second", z.message(1, 0, 2), 249);
        due("word", z.message(2, 0, 1), 250);
        due("edges", performText(z, "stick 3 10;hear 3 10;hold 3 1"), 3);
        due("stuck", z.listener(3, 2), 10);
    }

    private static void promise12Stopped() {
        PulledWires x = new PulledWires();
        due("none yet", x.stopped(0), NONE);
        due("none yet", x.stopped(1), NONE);
        due("what", x.stopped(-1), BAD_VALUE);
        due("what", x.stopped(2), BAD_VALUE);
        due("stops", performText(x, "say 0 1 2;hear 0 7;run 5;hear 1 7;run 9"), NOT_POSSIBLE);
        due("number", x.stopped(0), 3);
        due("error", x.stopped(1), NOT_POSSIBLE);
        due("what", x.stopped(2), BAD_VALUE);
        due("what", x.stopped(-1), BAD_VALUE);
        due("none of them", x.count(0), 0);
        due("none of them", x.speaker(0, 0), 0);
        due("none of them", x.listener(0, 0), NONE);
        due("no act", x.count(14), 0);
        due("a fault is no stop", performText(x, "hear 9"), -105);
        due("number", x.stopped(0), 3);
        due("a full line", performText(x, "say 1 1 1;say 1 1 1;say 1 1 1;say 1 1 1;say 1 1 1;say 1 1 1"), NOT_POSSIBLE);
        due("number", x.stopped(0), 5);
        due("error", x.stopped(1), FULL);
        due("none of them", x.speaker(1, 0), 0);
        due("without a stop", performText(x, "run 1"), 1);
        due("the latest stop stays", x.stopped(0), 5);
        x.undo();
        due("the stop is no state", x.stopped(1), FULL);
        due("a single order", performText(x, "say 1 1 1"), 1);
        x.hear(3, 9);
        due("first order", performText(x, "hear 1 9"), NOT_POSSIBLE);
        due("number", x.stopped(0), 0);
        due("error", x.stopped(1), NOT_POSSIBLE);
        // An order that does nothing does not stop.
        due("nothing", performText(x, "hear 3 9;run 1"), 2);
        due("number", x.stopped(0), 0);
        // The clock: 99800 + 99 + 99 + 1 are possible, one more tick is not.
        x = new PulledWires();
        runTo(x, 99800);
        due("runs", performText(x, "run 99;run 99;run 1;run 1"), NOT_POSSIBLE);
        due("number", x.stopped(0), 3);
        due("error", x.stopped(1), FULL);
        due("clock", x.count(0), 99800);
        due("runs", performText(x, "run 99;run 99;run 1"), 3);
        due("clock", x.count(0), 99999);
    }

    private static void promise13Undo() {
        PulledWires x = new PulledWires();
        due("empty", x.undo(), NONE);
        x.hear(0, 1);
        x.hear(1, 2);
        x.hear(2, 3);
        x.hear(3, 4);
        due("history", x.count(14), 4);
        x.say(0, 1, 1, NONE);
        due("four at most", x.count(14), 4);
        due("undo", x.undo(), 3);
        due("no message", x.speaker(0, 0), 0);
        due("undo", x.undo(), 2);
        due("undo", x.undo(), 1);
        due("undo", x.undo(), 0);
        due("the oldest one is gone", x.listener(0, 0), 1);
        due("undone", x.listener(1, 0), NONE);
        due("empty", x.undo(), NONE);
        // An undone state is removed; another one is recorded in its place.
        x.hear(1, 9);
        x.set(0, 7);
        due("undo", x.undo(), 1);
        x.hold(2, 5);
        due("undo", x.undo(), 1);
        due("hold", x.listener(2, 1), 0);
        due("address", x.listener(1, 0), 9);
        due("setting", x.count(11), 2);
        // A talk, its log and all accounts come back.
        PulledWires y = new PulledWires();
        y.hear(0, 1);
        y.hold(0, 2);
        y.say(0, 1, 77, NONE);
        y.say(1, 1, 78, NONE);
        y.run(12);
        y.stick(2, 5);
        y.run(290);
        due("came", y.count(8), 2);
        due("undo", y.undo(), 3);
        due("undo", y.undo(), 2);
        due("came", y.count(8), 0);
        due("clock", y.count(0), 12);
        due("talkers", y.count(1), 2);
        due("over", y.count(6), 8);
        due("held", y.count(3), 0);
        due("a place", y.count(2), 2);
        due("log", y.bit(0, 2), 10);
        due("log", y.bit(7, 2), 3);
        due("log", y.bit(8, 2), NONE);
        due("not stuck", y.listener(2, 2), 0);
        due("no word", y.listener(0, 4), NONE);
        due("line", y.message(0, 0, 1), 77);
        due("losses", y.speaker(1, 3), 0);
        due("the same as before", y.run(8), 0);
        due("held", y.count(2), 1);
        due("the same as before", y.run(4), 1);
    }

    // Failures, a drop, a shaking, words, a loser; then a held clock, behind a stuck tick.
    private static PulledWires busy() {
        PulledWires x = new PulledWires();
        x.set(2, 3);
        x.hear(0, 5);
        x.hold(0, 4);
        x.say(1, 9, 3, NONE);
        x.run(22);
        x.stick(1, 50);
        x.run(3);
        x.say(0, 5, 1, 2);
        x.say(2, 6, 1, 2);
        x.say(0, 5, 7, NONE);
        x.run(2 + 27 + 12 + 2 + 8);
        x.stick(3, 1);
        x.keep();
        x.run(1);
        return x;
    }

    private static int[] all(PulledWires x) {
        int[] told = new int[14 + 28 + 20 + 25 + 24 + 5];
        int n = 0;
        for (int what = 0; what < 14; what++) told[n++] = x.count(what);
        for (int i = 0; i < 28; i++) told[n++] = x.speaker(i / 7, i % 7);
        for (int i = 0; i < 20; i++) told[n++] = x.listener(i / 5, i % 5);
        for (int i = 0; i < 25; i++) told[n++] = i < 15 ? x.message(0, i / 5, i % 5) : x.message(2, i / 5 - 3, i % 5);
        for (int i = 0; i < 24; i++) told[n++] = x.bit(i / 4 * 7, i % 4);
        told[n++] = x.winners();
        told[n++] = x.emptyIn();
        for (int i = 0; i < 3; i++) told[n++] = x.ifRun(i, 120);
        return told;
    }

    private static void act(PulledWires x, int number) {
        switch (number) {
            case 0: due("say", x.say(0, 1, 2, NONE), 2); break;
            case 1: due("takeBack of a loser", x.takeBack(2), 0); break;
            case 2: due("hear", x.hear(0, 6), 1); break;
            case 3: due("hold", x.hold(0, 7), 4); break;
            case 4: due("stick", x.stick(2, 9), 1); break;
            case 5: due("set", x.set(1, 9), 2); break;
            case 6: due("run", x.run(130), 1); break;
            case 7: due("restore", x.restore(), 76); break;
            default: due("perform", performText(x, "hear 3 9;run 99"), 2); break;
        }
    }

    private static void promise13UndoOfEachAct() {
        int[] some = all(busy());
        due("held", some[3], 4);
        due("stuck ticks", some[5], 1);
        due("came", some[8], 1);
        due("talks", some[9], 4);
        due("shaken free", some[10], 1);
        for (int number = 0; number <= 8; number++) {
            PulledWires x = busy();
            int[] before = all(x);
            act(x, number);
            due("an act is to be seen, " + number, java.util.Arrays.equals(before, all(x)) ? 1 : 0, 0);
            due("undo", x.undo(), 3);
            int[] after = all(x);
            for (int i = 0; i < before.length; i++) {
                due("act " + number + ", answer " + i, after[i], before[i]);
            }
        }
        // More than 64 bits, and a shaking, are undone.
        PulledWires b = new PulledWires();
        b.set(1, 9);
        b.set(2, 5);
        b.say(0, 127, 1, NONE);
        b.run(11);
        due("nobody answers", b.bit(0, 0), 1);
        due("the bit ahead of it", b.bit(1, 0), 0);
        b.hear(0, 127);
        for (int i = 0; i < 4; i++) {
            b.say(0, 127, 1, 1);
        }
        b.stick(3, 99);
        b.run(300);
        due("came", b.count(8), 5);
        due("shaken free", b.count(10), 1);
        due("undo", b.undo(), 3);
        due("not shaken", b.count(10), 0);
        due("nobody answers", b.bit(0, 0), 1);
        due("the bit ahead of it", b.bit(1, 0), 0);
        due("and ahead of that", b.bit(2, 0), 1);
        due("clock", b.bit(8, 2), 3);
        due("no more", b.bit(9, 2), NONE);
        PulledWires t = new PulledWires();
        t.say(1, 1, 1, NONE);
        t.say(1, 2, 2, NONE);
        due("takeBack", t.takeBack(1), 1);
        t.undo();
        due("it is back", t.message(1, 1, 0), 2);
        // Many acts: four states are kept, each as it was.
        PulledWires h = new PulledWires();
        for (int ticks = 1; ticks <= 9; ticks++) {
            h.hold(0, ticks);
        }
        // What is only asked, or answers an error, does not touch them.
        h.emptyIn();
        h.ifRun(0, 300);
        h.hold(0, 10);
        for (int ticks = 8; ticks >= 5; ticks--) {
            due("undo", h.undo(), ticks - 5);
            due("hold", h.listener(0, 1), ticks);
        }
        due("no more", h.undo(), NONE);
        for (int ticks = 6; ticks <= 9; ticks++) {
            h.hold(0, ticks);
        }
        h.undo();
        h.undo();
        due("hold", h.listener(0, 1), 7);
    }

    private static void promise14Keep() {
        PulledWires x = new PulledWires();
        due("clock", x.keep(), 0);
        due("no act", x.count(14), 0);
        x.run(17);
        due("clock", x.keep(), 17);
        x.run(3);
        due("in place of", x.restore(), 17);
        x.undo();
        due("undo leaves it", x.restore(), 17);
    }

    private static void promise15Restore() {
        PulledWires x = new PulledWires();
        due("none", x.restore(), NONE);
        due("no act", x.count(14), 0);
        x.hear(0, 5);
        x.say(0, 5, 1, 2);
        x.run(7);
        x.keep();
        x.run(100);
        x.set(2, 44);
        x.type('r');
        due("restore", x.restore(), 7);
        due("history stays", x.count(14), 4);
        due("text stays", x.count(15), 1);
        due("setting", x.count(13), 10);
        due("over", x.count(6), 5);
        due("log", x.bit(0, 2), 7);
        due("log", x.bit(5, 2), NONE);
        due("undo", x.undo(), 3);
        due("an act", x.count(0), 107);
        due("setting", x.count(13), 44);
        due("again", x.restore(), 7);
        due("again, the same", x.restore(), 7);
        due("history", x.count(14), 4);
        due("goes on", x.run(22), 1);
        due("word", x.listener(0, 4), 2);
        due("the snapshot is as it was", x.restore(), 7);
        due("word", x.listener(0, 4), NONE);
    }

    private static void promise16Speaker() {
        PulledWires x = new PulledWires();
        due("no speaker", x.speaker(-1, 0), UNKNOWN);
        due("no speaker", x.speaker(4, 0), UNKNOWN);
        due("no speaker first", x.speaker(4, 7), UNKNOWN);
        due("what", x.speaker(0, -1), BAD_VALUE);
        due("what", x.speaker(0, 7), BAD_VALUE);
        x.hear(0, 5);
        x.say(0, 5, 9, NONE);
        x.say(1, 6, 9, NONE);
        x.run(2);
        due("in line", x.speaker(0, 0), 1);
        due("in the talk", x.speaker(1, 1), 1);
        x.run(18);
        due("out of the talk", x.speaker(1, 1), 0);
        due("came", x.speaker(0, 2), 1);
        due("came", x.speaker(1, 2), 0);
        due("lost", x.speaker(1, 3), 1);
        due("lost", x.speaker(0, 3), 0);
        x.run(11);
        due("failed", x.speaker(1, 4), 1);
        due("dropped", x.speaker(1, 5), 0);
        due("of its first", x.speaker(1, 6), 1);
        x.run(11);
        due("failed", x.speaker(1, 4), 2);
        due("dropped", x.speaker(1, 5), 1);
        due("of its first", x.speaker(1, 6), 0);
        due("in line", x.speaker(1, 0), 0);
        due("asking is no act", x.count(14), 4);
    }

    private static void promise17Message() {
        PulledWires x = new PulledWires();
        due("no speaker", x.message(-1, 0, 0), UNKNOWN);
        due("no speaker", x.message(4, 0, 0), UNKNOWN);
        due("no place", x.message(0, 0, 0), UNKNOWN);
        x.say(2, 127, 254, NONE);
        x.say(2, 0, 1, 255);
        due("no place", x.message(2, -1, 0), UNKNOWN);
        due("no place", x.message(2, 2, 0), UNKNOWN);
        due("no place first", x.message(2, 2, 5), UNKNOWN);
        due("no place", x.message(2, Integer.MAX_VALUE, 0), UNKNOWN);
        due("what", x.message(2, 0, -1), BAD_VALUE);
        due("what", x.message(2, 0, 5), BAD_VALUE);
        due("address", x.message(2, 0, 0), 127);
        due("word", x.message(2, 0, 1), 254);
        due("second", x.message(2, 0, 2), NONE);
        due("bits", x.message(2, 0, 3), 18);
        due("ticks", x.message(2, 0, 4), 18);
        due("address", x.message(2, 1, 0), 0);
        due("word", x.message(2, 1, 1), 1);
        due("second", x.message(2, 1, 2), 255);
        due("bits", x.message(2, 1, 3), 27);
        due("ticks", x.message(2, 1, 4), 27);
        x.hold(1, 9);
        due("no listener has it", x.message(2, 1, 4), 27);
        x.hear(1, 0);
        due("held three times", x.message(2, 1, 4), 54);
        due("not the other one", x.message(2, 0, 4), 18);
        x.hear(0, 127);
        x.hold(0, 1);
        due("held twice", x.message(2, 0, 4), 20);
        due("bits", x.message(2, 0, 3), 18);
        // It takes what is told.
        x.run(2);
        due("not yet", x.run(19), 0);
        due("comes", x.run(1), 1);
        due("moves up", x.message(2, 0, 2), 255);
        due("no place", x.message(2, 1, 0), UNKNOWN);
        x.run(2);
        due("not yet", x.run(53), 0);
        due("comes", x.run(1), 1);
    }

    private static void promise18Listener() {
        PulledWires x = new PulledWires();
        due("no listener", x.listener(-1, 0), UNKNOWN);
        due("no listener", x.listener(4, 0), UNKNOWN);
        due("no listener first", x.listener(4, 5), UNKNOWN);
        due("what", x.listener(0, -1), BAD_VALUE);
        due("what", x.listener(0, 5), BAD_VALUE);
        x.hear(1, 66);
        x.hold(1, 2);
        x.stick(1, 8);
        due("address", x.listener(1, 0), 66);
        due("holds", x.listener(1, 1), 2);
        due("stuck", x.listener(1, 2), 8);
        due("words", x.listener(1, 3), 0);
        due("word", x.listener(1, 4), NONE);
        x.run(8);
        due("stuck", x.listener(1, 2), 0);
        x.say(0, 66, 0, 255);
        x.run(2 + 9 + 9 + 4);
        due("words", x.listener(1, 3), 1);
        due("word 0 is one", x.listener(1, 4), 0);
        x.run(11);
        due("words", x.listener(1, 3), 2);
        due("word", x.listener(1, 4), 255);
        x.hear(1, NONE);
        due("words stay", x.listener(1, 4), 255);
        due("no address", x.listener(1, 0), NONE);
        due("others", x.listener(0, 3), 0);
    }

    private static void promise19Bit() {
        PulledWires x = new PulledWires();
        due("none", x.bit(0, 0), NONE);
        due("back", x.bit(-1, 0), BAD_VALUE);
        due("what", x.bit(0, -1), BAD_VALUE);
        due("what", x.bit(0, 4), BAD_VALUE);
        due("bad value first", x.bit(99, 4), BAD_VALUE);
        due("back", x.bit(Integer.MIN_VALUE, 0), BAD_VALUE);
        due("none", x.bit(Integer.MAX_VALUE, 0), NONE);
        x.hear(0, 1);
        x.say(0, 1, 2, 3);
        x.say(0, 1, 4, 5);
        x.say(0, 1, 6, 7);
        x.run(2 + 27);
        due("27", x.bit(26, 2), 3);
        due("no more", x.bit(27, 2), NONE);
        x.run(2 + 27 + 2 + 10);
        // 27 + 27 + 10 are 64.
        due("latest", x.bit(0, 2), 70);
        due("oldest", x.bit(63, 2), 3);
        due("no more", x.bit(64, 2), NONE);
        x.run(1);
        due("latest", x.bit(0, 2), 71);
        due("the oldest went", x.bit(63, 2), 4);
        due("64 at most", x.bit(64, 2), NONE);
        x.run(16);
        due("latest", x.bit(0, 2), 87);
        due("an answer", x.bit(0, 1), 1);
        due("low", x.bit(0, 0), 0);
        due("a 1", x.bit(1, 0), 1);
        due("a bit", x.bit(1, 1), 0);
        due("free ticks are none", x.bit(27, 2), 58);
        x.run(10);
        due("nothing more", x.bit(0, 2), 87);
    }

    private static void promise20Winners() {
        PulledWires x = new PulledWires();
        due("nobody", x.winners(), 0);
        x.say(3, 127, 255, 255);
        due("alone", x.winners(), 8);
        x.say(1, 127, 255, 255);
        due("the same", x.winners(), 10);
        x.say(0, 127, 255, 254);
        due("the lower one", x.winners(), 1);
        x.say(2, 127, 255, NONE);
        due("the short one loses nothing", x.winners(), 5);
        x.takeBack(2);
        x.say(2, 126, 255, NONE);
        due("a lower address", x.winners(), 4);
        x.takeBack(2);
        x.say(2, 127, 254, 255);
        due("a lower word", x.winners(), 4);
        // First messages alone; answers do not matter, nor who is stuck, nor a talk that goes on.
        x.say(3, 0, 0, 0);
        due("first messages", x.winners(), 4);
        x.stick(0, 99);
        due("nobody is stuck", x.winners(), 4);
        PulledWires y = new PulledWires();
        y.hear(0, 9);
        y.say(0, 9, 9, NONE);
        y.run(5);
        y.say(1, 8, 9, NONE);
        y.say(2, 8, 9, 1);
        due("were it started now", y.winners(), 6);
        due("nothing is changed", y.speaker(0, 1), 1);
        due("nothing is changed", y.count(0), 5);
        // The end of a short one does not let a loser in again.
        PulledWires z = new PulledWires();
        z.say(0, 9, 9, NONE);
        z.say(1, 9, 9, 8);
        z.say(2, 9, 9, 7);
        z.say(3, 9, 10, NONE);
        due("set", z.winners(), 5);
    }

    private static void promise21EmptyIn() {
        PulledWires x = new PulledWires();
        due("empty", x.emptyIn(), 0);
        x.hear(0, 5);
        x.say(0, 5, 1, NONE);
        due("2 + 18", x.emptyIn(), 20);
        x.say(1, 5, 1, 1);
        due("2 + 27, both in one talk", x.emptyIn(), 29);
        x.say(0, 5, 2, NONE);
        due("2 + 27 + 2 + 18", x.emptyIn(), 49);
        x.run(10);
        due("less", x.emptyIn(), 39);
        due("nothing is changed", x.count(0), 10);
        due("nothing is changed", x.count(7), 3);
        x.run(38);
        due("1", x.emptyIn(), 1);
        x.run(1);
        due("0", x.emptyIn(), 0);
        // Dropped messages are out of their lines too.
        PulledWires y = new PulledWires();
        y.say(0, 5, 1, NONE);
        due("two failures", y.emptyIn(), 22);
        y.set(1, 9);
        due("nine failures", y.emptyIn(), 99);
        y.set(0, 20);
        due("nine failures", y.emptyIn(), 9 * 29);
        for (int i = 0; i < 3; i++) {
            y.say(0, 5, 1, NONE);
        }
        // 4 messages take 4 * 9 * 29 ticks: 1044.
        due("longer than 1000", y.emptyIn(), NONE);
        y.run(44);
        due("1000", y.emptyIn(), 1000);
        y.undo();
        y.run(43);
        due("1001", y.emptyIn(), NONE);
        // The end of the clock does not matter to it.
        PulledWires z = new PulledWires();
        runTo(z, 99999);
        z.say(0, 5, 1, NONE);
        due("beyond the clock", z.emptyIn(), 1 + 9 + 11);
        // Stuck ticks count.
        PulledWires s = new PulledWires();
        s.hear(0, 0);
        s.say(0, 0, 0, NONE);
        s.stick(1, 7);
        due("7 + 20", s.emptyIn(), 27);
        s.run(7);
        due("20", s.emptyIn(), 20);
    }

    private static void promise22IfRun() {
        PulledWires x = new PulledWires();
        due("no speaker", x.ifRun(-1, 1), UNKNOWN);
        due("no speaker", x.ifRun(4, 1), UNKNOWN);
        due("no speaker first", x.ifRun(4, 0), UNKNOWN);
        due("ticks", x.ifRun(0, 0), BAD_VALUE);
        due("ticks", x.ifRun(0, -1), BAD_VALUE);
        due("ticks", x.ifRun(0, 301), BAD_VALUE);
        x.hear(0, 5);
        for (int i = 0; i < 5; i++) {
            x.say(2, 5, i, NONE);
        }
        x.say(1, 6, 0, NONE);
        due("not yet", x.ifRun(2, 19), 0);
        due("one tick", x.ifRun(2, 1), 0);
        due("one", x.ifRun(2, 20), 1);
        due("two", x.ifRun(2, 40), 2);
        due("five", x.ifRun(2, 300), 5);
        due("dropped ones do not come", x.ifRun(1, 300), 0);
        due("nobody", x.ifRun(0, 300), 0);
        due("nothing is changed", x.count(0), 0);
        due("nothing is changed", x.count(7), 6);
        due("no act", x.count(14), 4);
        x.run(20);
        due("all moved up", x.message(2, 3, 1), 4);
        due("from now on", x.ifRun(2, 20), 1);
        due("from now on", x.ifRun(2, 300), 4);
        due("so it is", x.run(20), 1);
        // The end of the clock does not matter to it.
        PulledWires z = new PulledWires();
        runTo(z, 99999);
        z.hear(0, 5);
        z.say(0, 5, 1, NONE);
        due("beyond the clock", z.ifRun(0, 300), 1);
        due("clock", z.count(0), 99999);
    }

    private static void promise23Count() {
        PulledWires x = new PulledWires();
        due("what", x.count(-1), BAD_VALUE);
        due("what", x.count(16), BAD_VALUE);
        due("what", x.count(Integer.MAX_VALUE), BAD_VALUE);
        x.hear(0, 5);
        x.hold(0, 3);
        x.say(0, 5, 8, NONE);
        x.say(1, 5, 8, NONE);
        x.say(2, 5, 9, NONE);
        x.run(1);
        due("clock", x.count(0), 1);
        due("free", x.count(2), 0);
        due("free ticks", x.count(4), 1);
        due("in all lines", x.count(7), 3);
        x.run(1);
        due("talkers", x.count(1), 3);
        due("a bit", x.count(2), 1);
        due("talks", x.count(9), 1);
        due("free ticks", x.count(4), 0);
        x.run(8);
        due("held", x.count(2), 3);
        due("still held", x.count(3), 3);
        due("over", x.count(6), 8);
        x.run(3);
        due("a place", x.count(2), 2);
        due("still held", x.count(3), 0);
        x.stick(3, 2);
        due("stuck", x.count(2), 4);
        x.run(1);
        due("stuck ticks", x.count(5), 1);
        x.run(1);
        due("stuck ticks", x.count(5), 2);
        due("a place", x.count(2), 2);
        x.run(1);
        due("stuck ticks", x.count(5), 0);
        x.run(8);
        due("talkers", x.count(1), 2);
        due("come both", x.run(4), 2);
        due("came", x.count(8), 2);
        due("in all lines", x.count(7), 1);
        due("over", x.count(6), 0);
        due("free", x.count(2), 0);
        x.set(0, 20);
        x.set(1, 9);
        x.set(2, 99);
        due("setting 0", x.count(11), 20);
        due("setting 1", x.count(12), 9);
        due("setting 2", x.count(13), 99);
        due("history", x.count(14), 4);
        x.undo();
        due("history", x.count(14), 3);
        x.type('q');
        due("text", x.count(15), 1);
        x.set(2, 1);
        x.stick(0, 9);
        x.run(1);
        due("shaken free", x.count(10), 1);
    }
}
