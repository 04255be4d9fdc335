import java.io.IOException;
import java.nio.file.Files;
import java.nio.file.Path;
import java.util.ArrayList;
import java.util.List;
import java.util.Map;
import java.util.Set;
import java.util.TreeMap;
import java.util.TreeSet;
import java.util.function.Supplier;
import java.util.function.ToIntFunction;

// The sentences of ../shared/DOC.md, in its order, with the boundary cases that they name: the least and the
// greatest value and the ones just beyond, nothing there and no room left, what goes round to the beginning, and
// refused calls, which change nothing. sentence() names the one that the answers below it are asked for. What is
// due was worked out by hand from it. At the end the document is read: each of its sentences must be named here.
//
// By hand: a message that is there from the beginning is sent at these clocks, if nothing is set, held or stuck:
// 1 and 2 free, 3 to 10 the address and its 0, 11 an answer, 12 to 19 the word, 20 an answer, 21 to 28 the second
// word, 29 an answer. One that nobody answers takes 11 ticks: 2 free ones, 8 bits, a place for an answer.
public final class BoundaryTests {
    private static final int UNKNOWN = -1;
    private static final int BAD_VALUE = -2;
    private static final int FULL = -3;
    private static final int NOT_POSSIBLE = -4;
    private static final int NONE = -5;
    private static final int LEAST_INT = Integer.MIN_VALUE;
    private static final int MOST_INT = Integer.MAX_VALUE;

    private static final List<String> HELPERS = List.of("fail", "due", "refused", "fault", "good", "dueSame");
    private static final Path DOCUMENT = Path.of("../shared/DOC.md");

    private static int wrong = 0;
    private static int asked = 0;
    private static String named = "";
    private static final Map<String, Set<String>> sentences = new TreeMap<>();

    private static void sentence(String section, String words) {
        named = section + ", \"" + words + "\"";
        sentences.computeIfAbsent(section, k -> new TreeSet<>()).add(words);
    }

    private static void due(String call, int got, int want) {
        asked++;
        if (got != want) {
            fail(call + " answered " + got + ", due is " + want);
        }
    }

    private static void due(String call, String got, String want) {
        asked++;
        if (!got.equals(want)) {
            fail(call + " answered " + got + ", due is " + want);
        }
    }

    private static void fail(String what) {
        wrong++;
        int line = 0;
        for (StackTraceElement call : new Throwable().getStackTrace()) {
            if (line == 0 && !HELPERS.contains(call.getMethodName())) {
                line = call.getLineNumber();
            }
        }
        System.out.println("BoundaryTests line " + line + ", " + named + ": " + what);
    }

    public static void main(String[] args) throws IOException {
        callsOfAnObject();
        speakersAndMessages();
        listeners();
        tick();
        stuckTick();
        heldTick();
        talkTick();
        freeTick();
        endsOfTalks();
        settings();
        texts();
        orders();
        history();
        errors();
        refusedActs();
        promisesOfActs();
        promisesOfTexts();
        promisesOfHistory();
        promisesOfWhatIsTold();
        eachSentenceIsNamed();
        System.out.println("BoundaryTests: " + asked + " answers, " + wrong + " not as due");
        if (wrong != 0) System.exit(1);
    }

    // ---- helpers

    private static void typeText(PulledWires x, String text) {
        x.clearText();
        for (int i = 0; i < text.length(); i++) {
            x.type(text.charAt(i));
        }
    }

    private static int performText(PulledWires x, String text) {
        typeText(x, text);
        return x.perform();
    }

    private static PulledWires typed(String text) {
        PulledWires x = new PulledWires();
        typeText(x, text);
        return x;
    }

    private static PulledWires hearing(int address, int hold) {
        PulledWires x = new PulledWires();
        x.hear(0, address);
        x.hold(0, hold);
        return x;
    }

    /** The latest ticks of the wire, the oldest first: bits, "." for an answer, "!" for one that did not come. */
    private static String wire(PulledWires x, int ticks) {
        StringBuilder wire = new StringBuilder();
        for (int back = ticks - 1; back >= 0; back--) {
            int level = x.bit(back, 0);
            wire.append(x.bit(back, 1) == 0 ? String.valueOf(level) : level == 0 ? "." : "!");
        }
        return wire.toString();
    }

    /** One thing that is told, of all speakers, as digits. */
    private static String speakers(PulledWires x, int what) {
        return "" + x.speaker(0, what) + x.speaker(1, what) + x.speaker(2, what) + x.speaker(3, what);
    }

    private static final String ELEVEN_RUNS = "run 99;".repeat(10) + "run 99";

    /** Free wires at a clock; by texts of 1089 ticks, as an object is used for at most 512 calls. */
    private static PulledWires atClock(int clock) {
        PulledWires x = typed(ELEVEN_RUNS);
        int left = clock;
        for (; left >= 1089; left -= 1089) {
            x.perform();
        }
        for (; left > 0; left -= Math.min(300, left)) {
            x.run(Math.min(300, left));
        }
        return x;
    }

    /** What is told of a state; some 200 calls at most. */
    private static List<Integer> told(PulledWires x) {
        List<Integer> told = new ArrayList<>();
        for (int what = 0; what <= 13; what++) told.add(x.count(what));
        for (int speaker = 0; speaker <= 3; speaker++) {
            for (int what = 0; what <= 6; what++) told.add(x.speaker(speaker, what));
            for (int place = 0; place < Math.min(x.speaker(speaker, 0), 5); place++) {
                for (int what = 0; what <= 4; what++) told.add(x.message(speaker, place, what));
            }
            told.add(x.ifRun(speaker, 300));
        }
        for (int listener = 0; listener <= 3; listener++) {
            for (int what = 0; what <= 4; what++) told.add(x.listener(listener, what));
        }
        for (int back : new int[] {0, 1, 7, 63}) {
            for (int what = 0; what <= 3; what++) told.add(x.bit(back, what));
        }
        told.add(x.winners());
        told.add(x.emptyIn());
        return told;
    }

    private static void brief(PulledWires x, List<Integer> told) {
        for (int what = 0; what <= 13; what++) told.add(x.count(what));
        for (int i = 0; i <= 3; i++) {
            told.add(x.speaker(i, 0));
            told.add(x.speaker(i, 4));
            for (int what = 0; what <= 2; what++) told.add(x.listener(i, what));
        }
    }

    /** A state, the latest stop, the length of the text, the history, the snapshot and the text; below 400 calls. */
    private static List<Integer> everything(PulledWires x) {
        List<Integer> told = told(x);
        told.add(x.count(14));
        told.add(x.count(15));
        told.add(x.stopped(0));
        told.add(x.stopped(1));
        int left = 0;
        for (int i = 0; i < 5 && left >= 0; i++) {
            left = x.undo();
            told.add(left);
            brief(x, told);
        }
        told.add(x.restore());
        brief(x, told);
        told.add(x.perform());
        told.add(x.clearText());
        told.add(x.count(0));
        return told;
    }

    private static void dueSame(String what, List<Integer> got, List<Integer> want) {
        asked++;
        if (!got.equals(want)) {
            fail(what + ": told is " + got + ", due is " + want);
        }
    }

    /** The call answers so and changes nothing: all is told as of a twin, on which it was not called. */
    private static void refused(Supplier<PulledWires> made, String call, ToIntFunction<PulledWires> calling, int want) {
        PulledWires x = made.get();
        due(call, calling.applyAsInt(x), want);
        dueSame(call + " changed something", everything(x), everything(made.get()));
    }

    // ---- What it is

    private static void callsOfAnObject() {
        sentence("What it is", "An object is used for at most 512 calls after it has been made; what later calls answer"
                + " is free.");
        PulledWires x = new PulledWires();
        for (int call = 1; call <= 510; call++) {
            due("call " + call, x.run(1), 0);
        }
        due("the 511th", x.undo(), 3);
        due("the 512th", x.count(0), 509);
        PulledWires y = new PulledWires();
        for (int call = 1; call <= 506; call++) {
            due("call " + call, y.stick(call % 4, 99), Math.min(call, 4));
        }
        y.set(2, 99);
        y.hear(0, 5);
        y.say(0, 5, 1, NONE);
        due("the 510th", y.run(99 + 19), 0);
        due("the 511th", y.ifRun(0, 1), 1);
        due("the 512th", y.run(1), 1);
    }

    // ---- Terms: speakers, messages

    private static void speakersAndMessages() {
        fourSpeakersFivePlaces();
        placesAreUsedAgain();
        leastAndGreatestMessage();
        bitsOfMessages();
    }

    private static final String SPEAKERS = "There are 4 speakers, 0 to 3, each with a line of at most 5 messages.";

    private static void fourSpeakersFivePlaces() {
        sentence("Terms", SPEAKERS);
        PulledWires x = new PulledWires();
        due("no speaker -1", x.say(-1, 5, 0, NONE), UNKNOWN);
        due("no speaker 4", x.say(4, 5, 0, NONE), UNKNOWN);
        for (int speaker = 0; speaker <= 3; speaker++) {
            for (int n = 1; n <= 5; n++) {
                due("say " + speaker, x.say(speaker, 5, 10 * speaker + n, NONE), n);
            }
            due("a sixth of " + speaker, x.say(speaker, 5, 0, NONE), FULL);
        }
        due("lines", speakers(x, 0), "5555");
        due("all lines", x.count(7), 20);
        for (int speaker = 0; speaker <= 3; speaker++) {
            due("the first of " + speaker, x.message(speaker, 0, 1), 10 * speaker + 1);
            due("the last of " + speaker, x.message(speaker, 4, 1), 10 * speaker + 5);
            due("no place for more", x.message(speaker, 5, 1), UNKNOWN);
        }
    }

    private static void placesAreUsedAgain() {
        sentence("Terms", SPEAKERS);
        PulledWires x = hearing(5, 0);
        for (int n = 1; n <= 5; n++) {
            x.say(2, 5, n, n + 100);
        }
        x.run(28);
        due("a sixth while the first is sent", x.say(2, 5, 6, NONE), FULL);
        due("the first comes", x.run(1), 1);
        due("a place is there", x.say(2, 5, 6, NONE), 5);
        due("and one alone", x.say(2, 5, 7, NONE), FULL);
        for (int place = 0; place <= 4; place++) {
            due("word at " + place, x.message(2, place, 1), place + 2);
            due("second at " + place, x.message(2, place, 2), place == 4 ? NONE : place + 102);
        }
        due("nothing behind it", x.message(2, 5, 1), UNKNOWN);
    }

    private static void leastAndGreatestMessage() {
        sentence("Terms", "A message has an address (0 to 127) and 1 or 2 words (0 to 255).");
        PulledWires x = new PulledWires();
        due("least", x.say(0, 0, 0, 0), 1);
        due("greatest", x.say(0, 127, 255, 255), 2);
        due("one word, least", x.say(0, 0, 0, NONE), 3);
        due("one word, greatest", x.say(0, 127, 255, NONE), 4);
        int[][] messages = {{0, 0, 0}, {127, 255, 255}, {0, 0, NONE}, {127, 255, NONE}};
        for (int place = 0; place < 4; place++) {
            for (int what = 0; what < 3; what++) {
                due("message " + place + " " + what, x.message(0, place, what), messages[place][what]);
            }
        }
        due("address", x.say(0, -1, 0, 0), BAD_VALUE);
        due("address", x.say(0, 128, 0, 0), BAD_VALUE);
        due("word", x.say(0, 0, -1, 0), BAD_VALUE);
        due("word", x.say(0, 0, 256, 0), BAD_VALUE);
        due("second", x.say(0, 0, 0, -1), BAD_VALUE);
        due("second", x.say(0, 0, 0, 256), BAD_VALUE);
    }

    private static void bitsOfMessages() {
        sentence("Terms", "Its bits are: the 7 bits of the address, the greatest first, a 0; a place for an answer;"
                + " for each word its 8 bits, the greatest first, and a place for an answer.");
        due("greatest bits", bitsOf(64, 128, 1), "10000000.10000000.00000001.");
        due("least bits", bitsOf(1, 1, 128), "00000010.00000001.10000000.");
        due("all", bitsOf(127, 255, 255), "11111110.11111111.11111111.");
        due("none", bitsOf(0, 0, 0), "00000000.00000000.00000000.");
        due("others", bitsOf(77, 178, 77), "10011010.10110010.01001101.");
        PulledWires x = hearing(64, 0);
        x.say(1, 64, 128, NONE);
        x.run(300);
        due("one word alone", wire(x, 18), "10000000.10000000.");
        due("nothing ahead of it", x.bit(18, 0), NONE);
        PulledWires y = new PulledWires();
        y.say(1, 64, 128, NONE);
        y.run(11);
        due("without an answer", wire(y, 9), "10000000!");
        due("nothing ahead of it", y.bit(9, 0), NONE);
    }

    private static String bitsOf(int address, int word, int second) {
        PulledWires x = hearing(address, 0);
        x.say(3, address, word, second);
        x.run(300);
        due("nothing ahead of it", x.bit(27, 0), NONE);
        due("the first bit", x.bit(26, 2), 3);
        return wire(x, 27);
    }

    // ---- Terms: listeners

    private static void listeners() {
        fourListenersWithAddresses();
        noneHasAnAddressAtFirst();
        leastAndGreatestHold();
        holdIsForItsAddressAlone();
    }

    private static final String LISTENERS = "There are 4 listeners, 0 to 3, each with an address, or none (none at"
            + " first); none two have the same one.";

    private static void fourListenersWithAddresses() {
        sentence("Terms", LISTENERS);
        PulledWires x = new PulledWires();
        int[] addresses = {0, 1, 126, 127};
        due("no listener -1", x.hear(-1, 9), UNKNOWN);
        due("no listener 4", x.hear(4, 9), UNKNOWN);
        for (int listener = 0; listener <= 3; listener++) {
            due("hear", x.hear(listener, addresses[listener]), listener + 1);
        }
        for (int listener = 0; listener <= 3; listener++) {
            due("address", x.listener(listener, 0), addresses[listener]);
            for (int other = 0; other <= 3; other++) {
                due("the same one", x.hear(other, addresses[listener]), other == listener ? NONE : NOT_POSSIBLE);
            }
        }
        // One that is given up can be had by each other one.
        for (int listener = 0; listener <= 3; listener++) {
            int next = (listener + 1) % 4;
            x.hear(next, NONE);
            due("given up", x.hear(listener, addresses[next]), 3);
            due("the own one is free too", x.hear(next, addresses[listener]), 4);
            x.hear(next, NONE);
            x.hear(listener, addresses[listener]);
            x.hear(next, addresses[next]);
        }
    }

    private static void noneHasAnAddressAtFirst() {
        sentence("Terms", LISTENERS);
        PulledWires x = new PulledWires();
        for (int listener = 0; listener <= 3; listener++) {
            due("none at first", x.listener(listener, 0), NONE);
        }
        x.say(0, 0, 0, NONE);
        x.run(11);
        due("nobody has the address 0", x.bit(0, 0), 1);
        due("failed", x.speaker(0, 4), 1);
        // All may have none at once; an address of a listener that has none again is nobody's.
        for (int listener = 0; listener <= 3; listener++) {
            due("an address", x.hear(listener, 0), 1);
            due("none", x.hear(listener, NONE), 0);
        }
        x.run(11);
        due("nobody has it", x.speaker(0, 4), 2);
    }

    private static final String HOLDS = "A listener holds the clock for some ticks (0 to 9; 0 at first) ahead of"
            + " each place for an answer of a message with its address; it can be stuck for some ticks.";

    private static void leastAndGreatestHold() {
        sentence("Terms", HOLDS);
        for (int listener = 0; listener <= 3; listener++) {
            PulledWires x = new PulledWires();
            due("0 at first", x.listener(listener, 1), 0);
            due("not stuck at first", x.listener(listener, 2), 0);
            x.hear(listener, 5);
            x.hold(listener, 9);
            x.say(0, 5, 1, 2);
            // 3 to 10 bits, 11 to 19 held, 20 an answer, 21 to 28 bits, 29 to 37 held, 38, 39 to 46, 47 to 55, 56.
            x.run(10);
            due("held ahead of the first", x.count(3), 9);
            x.run(8);
            due("a tick still", x.count(3), 1);
            x.run(1);
            due("held no more", x.count(2), 2);
            x.run(1 + 8);
            due("held ahead of the second", x.count(3), 9);
            x.run(9 + 1 + 8);
            due("held ahead of the third", x.count(3), 9);
            due("not yet", x.run(9), 0);
            due("comes", x.run(1), 1);
            due("clock", x.bit(0, 2), 56);
            due("stick", x.stick(listener, 1), 1);
            due("stuck", x.listener(listener, 2), 1);
        }
        PulledWires y = hearing(5, 0);
        y.say(0, 5, 1, 2);
        y.run(10);
        due("0: not held", y.count(3), 0);
        due("0: an answer is next", y.count(2), 2);
        due("0: comes at 29", y.run(18), 0);
        due("0: comes at 29", y.run(1), 1);
    }

    private static void holdIsForItsAddressAlone() {
        sentence("Terms", HOLDS);
        PulledWires x = hearing(5, 9);
        x.hear(1, 6);
        x.hold(2, 9);
        x.say(0, 6, 1, NONE);
        due("not held", x.run(19), 0);
        due("comes", x.run(1), 1);
        PulledWires y = new PulledWires();
        for (int listener = 0; listener <= 3; listener++) {
            y.hold(listener, 9);
        }
        y.say(0, 0, 1, NONE);
        y.run(11);
        due("none of them has an address", y.speaker(0, 4), 1);
    }

    // ---- Terms: a tick

    private static void tick() {
        clockGrowsInEachTick();
        firstThatApplies();
    }

    private static void clockGrowsInEachTick() {
        sentence("Terms", "The clock grows by 1.");
        PulledWires x = hearing(5, 1);
        x.say(0, 5, 1, NONE);
        x.stick(0, 1);
        int[] kinds = {4, 0, 0, 1, 1, 1, 1, 1, 1, 1, 1, 3, 2, 1};
        for (int clock = 0; clock < kinds.length; clock++) {
            due("clock", x.count(0), clock);
            due("next tick at " + clock, x.count(2), kinds[clock]);
            x.run(1);
        }
        due("clock", x.count(0), 14);
    }

    private static void firstThatApplies() {
        sentence("Terms", "Then the first of these that applies:");
        PulledWires x = hearing(5, 2);
        x.say(0, 5, 1, NONE);
        x.run(10);
        x.stick(1, 1);
        due("stuck ahead of held", x.count(2), 4);
        x.run(1);
        due("stuck no more", x.listener(1, 2), 0);
        due("held as before", x.count(3), 2);
        due("held ahead of the talk", x.count(2), 3);
        x.run(2);
        due("nothing was sent", x.bit(0, 2), 10);
        due("the talk ahead of free wires", x.count(2), 2);
        x.run(1);
        due("the answer", x.bit(0, 2), 14);
        x.stick(1, 1);
        x.run(1);
        due("stuck ahead of the talk", x.bit(0, 2), 14);
        x.run(9);
        due("the talk goes on: no free tick", x.count(4), 0);
        due("held", x.count(2), 3);
        x.run(3);
        due("free at last", x.count(2), 0);
        x.stick(1, 1);
        x.run(1);
        due("stuck ahead of free", x.count(4), 0);
    }

    // ---- Terms: a listener is stuck

    private static void stuckTick() {
        stuckWiresAreNotFree();
        stuckWiresAreCountedAnew();
        stuckOnesLose();
        stuckOnesWait();
        stuckAndOutOfTheTalk();
        stuckTicksOneBehindTheOther();
        stuckTicksFromZeroWhenShaken();
        shakenByTheSetting();
        shakenByMoreThanTheSetting();
        aTickLess();
    }

    private static final String STUCK = "A listener is stuck (any): the wire is low (and not free: if there is no"
            + " talk, free ticks are counted anew behind that).";

    private static void stuckWiresAreNotFree() {
        sentence("Terms", STUCK);
        for (int listener = 0; listener <= 3; listener++) {
            PulledWires x = new PulledWires();
            x.say(0, 5, 1, NONE);
            x.run(1);
            due("free for one", x.count(4), 1);
            x.stick(listener, 1);
            due("as before until the tick", x.count(4), 1);
            x.run(1);
            due("not free", x.count(4), 0);
            due("no start", x.count(9), 0);
            x.run(1);
            due("from there", x.count(4), 1);
            due("no start", x.count(9), 0);
            x.run(1);
            due("start", x.count(9), 1);
        }
    }

    private static void stuckWiresAreCountedAnew() {
        sentence("Terms", STUCK);
        PulledWires x = new PulledWires();
        x.set(0, 20);
        x.run(19);
        x.say(0, 5, 1, NONE);
        x.stick(1, 9);
        x.run(9);
        due("not free", x.count(4), 0);
        x.run(19);
        due("19 are not 20", x.count(1), 0);
        due("free", x.count(4), 19);
        x.run(1);
        due("start", x.count(1), 1);
        PulledWires y = new PulledWires();
        y.set(0, 1);
        y.say(0, 5, 1, NONE);
        y.stick(3, 3);
        y.run(3);
        due("no start while one is stuck", y.count(9), 0);
        y.run(1);
        due("start", y.count(9), 1);
    }

    private static final String STUCK_SPEAKERS = "Each speaker that is in the talk and would send a 1 in this tick"
            + " loses; one that would send a 0, or is at a place for an answer or held, waits where it is.";

    private static void stuckOnesLose() {
        sentence("Terms", STUCK_SPEAKERS);
        PulledWires x = new PulledWires();
        x.say(0, 127, 1, NONE);
        x.say(1, 64, 1, NONE);
        x.say(2, 63, 1, NONE);
        x.say(3, 0, 1, NONE);
        x.run(2);
        x.stick(0, 2);
        due("nothing happens ahead of the tick", speakers(x, 3), "0000");
        x.run(1);
        due("a 1 loses, a 0 waits", speakers(x, 1), "0011");
        due("lost", speakers(x, 3), "1100");
        due("at the same bit", x.count(6), 0);
        due("no bit was sent", x.bit(0, 0), NONE);
        x.run(1);
        due("at the same bit: nobody else", speakers(x, 1), "0011");
        due("nobody loses twice", speakers(x, 3), "1100");
        x.run(1);
        due("the same bit is sent now", x.count(6), 1);
        due("low", x.bit(0, 0), 0);
        due("clock", x.bit(0, 2), 5);
        due("nobody lost by it", x.bit(0, 3), 0);
        // The second bits are 1 and 0.
        x.stick(0, 1);
        x.run(1);
        due("a 1 loses", speakers(x, 1), "0001");
        PulledWires y = hearing(5, 0);
        y.say(0, 5, 128, NONE);
        y.say(1, 5, 127, NONE);
        y.run(11);
        y.stick(3, 1);
        y.run(1);
        due("a 1 of a word", speakers(y, 1), "0100");
    }

    private static void stuckOnesWait() {
        sentence("Terms", STUCK_SPEAKERS);
        PulledWires x = hearing(127, 2);
        x.say(0, 127, 255, 255);
        x.run(10);
        x.stick(3, 3);
        x.run(3);
        due("held: in the talk", x.speaker(0, 1), 1);
        due("held: not lost", x.speaker(0, 3), 0);
        due("held as before", x.count(3), 2);
        x.run(2);
        due("an answer is next", x.count(2), 2);
        x.stick(3, 3);
        x.run(3);
        due("at an answer: in the talk", x.speaker(0, 1), 1);
        due("at an answer: not lost", x.speaker(0, 3), 0);
        due("not answered yet", x.count(6), 8);
        due("no answer was due", x.bit(0, 2), 10);
        x.run(1);
        due("answered", x.count(6), 9);
        due("clock", x.bit(0, 2), 19);
        x.run(8 + 2);
        x.stick(3, 1);
        due("at the answer to a word", x.run(1), 0);
        due("not taken yet", x.listener(0, 3), 0);
        due("in the talk", x.speaker(0, 1), 1);
        x.run(1);
        due("taken", x.listener(0, 3), 1);
        x.run(8 + 2);
        x.stick(3, 1);
        due("at the last answer", x.run(1), 0);
        due("comes", x.run(1), 1);
        due("not lost", x.speaker(0, 3), 0);
    }

    private static void stuckAndOutOfTheTalk() {
        sentence("Terms", STUCK_SPEAKERS);
        PulledWires x = new PulledWires();
        x.say(0, 0, 0, NONE);
        x.say(1, 127, 0, NONE);
        x.run(3);
        x.say(2, 127, 0, NONE);
        x.stick(0, 5);
        x.run(5);
        due("who is out of the talk, or not yet in it, does not lose", speakers(x, 3), "0100");
        due("in the talk", speakers(x, 1), "1000");
        PulledWires y = new PulledWires();
        y.say(0, 127, 0, NONE);
        y.stick(0, 5);
        y.run(5);
        due("without a talk nobody loses", speakers(y, 3), "0000");
    }

    private static final String STUCK_TICKS = "The ticks of being stuck, one behind the other, are counted (from 0"
            + " again with a tick in which none is stuck, or when all are shaken free);";

    private static void stuckTicksOneBehindTheOther() {
        sentence("Terms", STUCK_TICKS);
        PulledWires x = new PulledWires();
        due("none yet", x.count(5), 0);
        x.stick(0, 2);
        due("none yet", x.count(5), 0);
        x.run(1);
        due("one", x.count(5), 1);
        x.run(1);
        due("two", x.count(5), 2);
        due("stuck no more", x.listener(0, 2), 0);
        x.run(1);
        due("a tick in which none is stuck", x.count(5), 0);
        x.stick(1, 1);
        x.run(1);
        due("from 0 again", x.count(5), 1);
        x.stick(2, 1);
        x.run(1);
        due("another one, behind it", x.count(5), 2);
        // A bit, a held tick and a place for an answer are such ticks too.
        PulledWires y = hearing(0, 1);
        y.say(0, 0, 0, NONE);
        y.run(9);
        int[] kinds = {1, 3, 2, 1};
        for (int kind : kinds) {
            y.stick(3, 1);
            y.run(1);
            due("stuck", y.count(5), 1);
            due("next", y.count(2), kind);
            y.run(1);
            due("from 0 again", y.count(5), 0);
        }
    }

    private static void stuckTicksFromZeroWhenShaken() {
        sentence("Terms", STUCK_TICKS);
        PulledWires x = new PulledWires();
        x.set(2, 4);
        x.stick(0, 9);
        x.run(3);
        due("three", x.count(5), 3);
        x.run(1);
        due("shaken free", x.count(5), 0);
        due("once", x.count(10), 1);
        x.stick(0, 9);
        x.run(3);
        due("from 0 again, without a gap", x.count(5), 3);
        due("once", x.count(10), 1);
        x.run(1);
        due("twice", x.count(10), 2);
        // Being told anew to be stuck is no gap.
        x.stick(0, 9);
        x.run(3);
        x.stick(0, 9);
        x.run(1);
        due("three times", x.count(10), 3);
    }

    private static final String SHAKEN = "when there are as many as the setting 2 tells, or more, all listeners are"
            + " shaken free (they are stuck no more).";

    private static void shakenByTheSetting() {
        sentence("Terms", SHAKEN);
        PulledWires x = new PulledWires();
        x.set(2, 1);
        for (int listener = 0; listener <= 3; listener++) {
            x.stick(listener, 99);
        }
        x.run(1);
        due("least: with the first tick", x.count(10), 1);
        for (int listener = 0; listener <= 3; listener++) {
            due("all of them", x.listener(listener, 2), 0);
        }
        due("stuck no more", x.count(2), 0);
        PulledWires y = new PulledWires();
        y.set(2, 99);
        y.stick(2, 99);
        y.run(98);
        due("greatest: not with the 98th", y.count(10), 0);
        due("a tick still", y.listener(2, 2), 1);
        y.run(1);
        due("greatest: with the 99th", y.count(10), 1);
        PulledWires z = new PulledWires();
        z.stick(1, 9);
        z.run(20);
        due("first: nine are less than ten", z.count(10), 0);
        z.stick(1, 10);
        z.run(9);
        due("first: not with the ninth", z.count(10), 0);
        z.run(1);
        due("first: with the tenth", z.count(10), 1);
        // In the tick of being shaken free it is still as in each stuck tick.
        PulledWires w = new PulledWires();
        w.set(2, 1);
        w.say(0, 64, 0, NONE);
        w.say(1, 0, 0, NONE);
        w.run(2);
        w.stick(0, 99);
        w.run(1);
        due("who would send a 1 loses", speakers(w, 3), "1000");
        due("who would send a 0 waits", w.count(6), 0);
    }

    private static void shakenByMoreThanTheSetting() {
        sentence("Terms", SHAKEN);
        PulledWires x = new PulledWires();
        x.stick(0, 50);
        x.run(5);
        x.set(2, 3);
        due("not by the setting itself", x.count(10), 0);
        due("stuck", x.listener(0, 2), 45);
        x.run(1);
        due("six are more than three", x.count(10), 1);
        due("free", x.listener(0, 2), 0);
        PulledWires y = new PulledWires();
        y.stick(0, 50);
        y.run(9);
        y.set(2, 11);
        y.run(1);
        due("ten are less than eleven", y.count(10), 0);
        y.run(1);
        due("eleven", y.count(10), 1);
    }

    private static void aTickLess() {
        sentence("Terms", "Otherwise each stuck listener is stuck a tick less.");
        PulledWires x = new PulledWires();
        x.stick(0, 1);
        x.stick(1, 2);
        x.stick(3, 99);
        x.run(1);
        due("1 - 1", x.listener(0, 2), 0);
        due("2 - 1", x.listener(1, 2), 1);
        due("not stuck", x.listener(2, 2), 0);
        due("99 - 1", x.listener(3, 2), 98);
        x.run(1);
        due("no less than 0", x.listener(0, 2), 0);
        due("1 - 1", x.listener(1, 2), 0);
        due("98 - 1", x.listener(3, 2), 97);
    }

    // ---- Terms: the clock is held

    private static void heldTick() {
        oneTickLess();
        heldAheadOfAnswers();
        heldByWhomThen();
    }

    private static void oneTickLess() {
        sentence("Terms", "The clock is held: the ticks for which it still is become one less.");
        PulledWires x = hearing(5, 9);
        x.say(0, 5, 1, NONE);
        x.run(10);
        for (int held = 9; held >= 1; held--) {
            due("held", x.count(3), held);
            due("next", x.count(2), 3);
            due("over", x.count(6), 8);
            x.run(1);
        }
        due("0: no more", x.count(3), 0);
        due("next", x.count(2), 2);
        due("nothing was sent", x.bit(0, 2), 10);
        x.run(1);
        due("not below 0", x.count(3), 0);
    }

    private static final String HELD = "Ahead of the tick of a place for an answer, as the bit before it has been"
            + " sent, the clock is held for as many ticks as the listener with the address of the talk tells (if"
            + " there is one).";

    private static void heldAheadOfAnswers() {
        sentence("Terms", HELD);
        PulledWires x = hearing(5, 1);
        x.say(0, 5, 1, 2);
        x.run(9);
        due("not ahead of the bit", x.count(3), 0);
        due("not ahead of the bit", x.count(2), 1);
        x.run(1);
        due("as it has been sent", x.count(3), 1);
        x.run(1 + 1 + 7);
        due("not within a word", x.count(3), 0);
        x.run(1);
        due("behind a word", x.count(3), 1);
        x.run(1 + 1 + 8);
        due("behind the second word", x.count(3), 1);
        due("least: one tick", x.run(1), 0);
        due("then the answer", x.run(1), 1);
        PulledWires y = hearing(4, 9);
        y.say(0, 5, 1, NONE);
        y.run(10);
        due("there is none", y.count(3), 0);
        due("the answer is next", y.count(2), 2);
    }

    private static void heldByWhomThen() {
        sentence("Terms", HELD);
        PulledWires x = hearing(5, 1);
        x.say(0, 5, 1, 2);
        x.run(9);
        x.hold(0, 7);
        x.run(1);
        due("as it is told when the bit is sent", x.count(3), 7);
        x.hold(0, 0);
        due("not as it is told later", x.count(3), 7);
        x.run(7 + 1 + 8);
        due("0 by the next place", x.count(2), 2);
        x.run(1 + 7);
        x.hear(0, 6);
        x.hear(3, 5);
        x.hold(3, 4);
        x.run(1);
        due("the listener that has the address then", x.count(3), 4);
        due("comes", x.run(5), 1);
        due("it took one word", x.listener(0, 3), 1);
        due("the other one took the second", x.listener(3, 4), 2);
    }

    // ---- Terms: the talk goes on

    private static void talkTick() {
        lowIfAnySendsZero();
        losersAreOut();
        answersAndWords();
        nextWordAndEnd();
        nobodyAnswered();
    }

    private static void lowIfAnySendsZero() {
        sentence("Terms", "The talk goes on: at a bit each speaker in it sends its bit; the wire is low (0) if any"
                + " sends a 0, otherwise high (1).");
        for (int lower = 0; lower <= 3; lower++) {
            PulledWires x = new PulledWires();
            for (int speaker = 0; speaker <= 3; speaker++) {
                x.say(speaker, speaker == lower ? 63 : 64, 0, NONE);
            }
            x.run(3);
            due("one 0 of four", x.bit(0, 0), 0);
            PulledWires y = new PulledWires();
            y.say(lower, 64, 0, NONE);
            y.run(3);
            due("a 1 alone", y.bit(0, 0), 1);
            y.run(1);
            due("a 0 alone", y.bit(0, 0), 0);
        }
        PulledWires z = new PulledWires();
        for (int speaker = 0; speaker <= 3; speaker++) {
            z.say(speaker, 64, 0, NONE);
        }
        z.run(3);
        due("four 1", z.bit(0, 0), 1);
        z.run(1);
        due("four 0", z.bit(0, 0), 0);
        // Who is not in the talk pulls nothing: 0 is said while 64 is sent.
        PulledWires w = new PulledWires();
        w.say(0, 64, 0, NONE);
        w.run(2);
        w.say(1, 0, 0, NONE);
        w.run(1);
        due("a 1 alone", w.bit(0, 0), 1);
    }

    private static void losersAreOut() {
        sentence("Terms", "Those that sent a 1 while the wire is low lose: they are out of the talk.");
        PulledWires x = new PulledWires();
        x.say(0, 127, 0, NONE);
        x.say(1, 96, 0, NONE);
        x.say(2, 64, 0, NONE);
        x.say(3, 64, 0, NONE);
        x.run(3);
        due("high: nobody loses", speakers(x, 1), "1111");
        due("nobody", x.bit(0, 3), 0);
        x.run(1);
        due("low: those with a 1", speakers(x, 1), "0011");
        due("lost", speakers(x, 3), "1100");
        due("two", x.bit(0, 3), 2);
        x.run(6);
        due("at the 0 behind the address", x.count(6), 8);
        due("low without a 1", speakers(x, 1), "0011");
        due("lost", speakers(x, 3), "1100");
        PulledWires y = new PulledWires();
        y.say(0, 64, 0, NONE);
        y.say(1, 96, 0, NONE);
        y.say(2, 127, 0, NONE);
        y.say(3, 63, 0, NONE);
        y.run(3);
        due("three lose at once", y.bit(0, 3), 3);
        due("one is left", speakers(y, 1), "0001");
        y.run(1);
        due("who lost pulls and loses no more", y.bit(0, 0), 1);
        due("lost", speakers(y, 3), "1110");
        // By the last bit of an address, and by the last one of a second word.
        PulledWires z = hearing(6, 0);
        z.say(0, 6, 9, 9);
        z.say(1, 6, 9, 8);
        z.say(2, 7, 0, 0);
        z.run(8);
        due("not yet", speakers(z, 1), "1110");
        z.run(1);
        due("the last bit of the address", speakers(z, 1), "1100");
        z.run(2 + 9 + 7);
        due("not yet", speakers(z, 1), "1100");
        z.run(1);
        due("the last bit of all", speakers(z, 1), "0100");
        due("comes", z.run(1), 1);
    }

    private static void answersAndWords() {
        sentence("Terms", "At a place for an answer the wire is low if a listener has the address (it takes the"
                + " word then, if it is the answer to a word);");
        for (int listener = 0; listener <= 3; listener++) {
            int address = listener % 2 == 0 ? 0 : 127;
            PulledWires x = new PulledWires();
            x.hear(listener, address);
            x.hear((listener + 1) % 4, 5);
            x.say(0, address, 0, 255);
            x.run(11);
            due("low", x.bit(0, 0), 0);
            due("an answer", x.bit(0, 1), 1);
            due("the address is no word", x.listener(listener, 3), 0);
            due("the address is no word", x.listener(listener, 4), NONE);
            x.run(8);
            due("not ahead of the answer", x.listener(listener, 3), 0);
            x.run(1);
            due("the word", x.listener(listener, 4), 0);
            due("one", x.listener(listener, 3), 1);
            x.run(9);
            due("the second word", x.listener(listener, 4), 255);
            due("two", x.listener(listener, 3), 2);
            due("another one takes none", x.listener((listener + 1) % 4, 3), 0);
        }
        PulledWires y = hearing(5, 0);
        for (int speaker = 0; speaker <= 3; speaker++) {
            y.say(speaker, 5, 7, NONE);
        }
        due("all come", y.run(20), 4);
        due("one word, said by four", y.listener(0, 3), 1);
    }

    private static void nextWordAndEnd() {
        sentence("Terms", "then the talk goes on with the next word; a speaker whose message has no further word"
                + " leaves the talk, and its message has come; when nobody is left, the talk ends.");
        PulledWires x = hearing(5, 0);
        x.say(0, 5, 7, NONE);
        x.say(1, 5, 7, 255);
        x.say(2, 5, 7, NONE);
        x.say(3, 5, 7, 255);
        due("nothing by the address", x.run(19), 0);
        due("two", x.run(1), 2);
        due("came", speakers(x, 2), "1010");
        due("left", speakers(x, 1), "0101");
        due("out of their lines", speakers(x, 0), "0101");
        due("lost", speakers(x, 3), "0000");
        due("the talk goes on", x.count(6), 18);
        due("with the next word", x.count(2), 1);
        due("not yet", x.run(8), 0);
        due("two", x.run(1), 2);
        due("came", speakers(x, 2), "1111");
        due("the talk ends", speakers(x, 1), "0000");
        due("the wires are free", x.count(2), 0);
        due("nothing is over", x.count(6), 0);
        // Who left has another message, and takes part in the next start alone.
        PulledWires y = hearing(5, 0);
        y.say(0, 5, 7, NONE);
        y.say(0, 5, 0, NONE);
        y.say(1, 5, 7, 255);
        y.run(20);
        due("left", speakers(y, 1), "0100");
        due("one in line", y.speaker(0, 0), 1);
        y.run(1);
        due("a 1: the next message sends nothing", y.bit(0, 0), 1);
        due("comes", y.run(8), 1);
        y.run(2);
        due("start", speakers(y, 1), "1000");
    }

    private static void nobodyAnswered() {
        sentence("Terms", "If the wire stays high, nobody answered: the talk ends, and the message of each one has"
                + " failed.");
        PulledWires x = new PulledWires();
        x.say(0, 5, 1, NONE);
        x.say(1, 5, 2, 3);
        x.say(2, 5, 1, NONE);
        x.say(3, 6, 0, NONE);
        x.run(10);
        due("not yet", speakers(x, 4), "0000");
        x.run(1);
        due("high", x.bit(0, 0), 1);
        due("an answer was due", x.bit(0, 1), 1);
        due("nobody lost by it", x.bit(0, 3), 0);
        due("each one in the talk", speakers(x, 4), "1110");
        due("the loser has not failed", speakers(x, 3), "0001");
        due("the talk ends", speakers(x, 1), "0000");
        due("free", x.count(2), 0);
        due("kept", speakers(x, 0), "1111");
        // At a word, and at the second one, when another speaker has left already.
        PulledWires y = hearing(5, 0);
        y.say(0, 5, 1, 2);
        y.say(1, 5, 1, NONE);
        y.run(19);
        y.hear(0, NONE);
        due("none comes", y.run(1), 0);
        due("both failed", speakers(y, 4), "1100");
        due("no word", y.listener(0, 3), 0);
        y.hear(0, 5);
        due("tried again", y.run(20), 1);
        y.hear(0, NONE);
        due("none comes", y.run(9), 0);
        due("it has failed again, and is dropped", speakers(y, 4), "2100");
        due("the one that came has not", speakers(y, 2), "0100");
        due("the first word was taken", y.listener(0, 3), 1);
        due("dropped", speakers(y, 5), "1000");
    }

    // ---- Terms: the wires are free

    private static void freeTick() {
        freeForOneMore();
        startByTheSetting();
        startByMoreThanTheSetting();
        startOfAllWithAMessage();
    }

    private static void freeForOneMore() {
        sentence("Terms", "The wires are free: they have been so for one tick more.");
        PulledWires x = new PulledWires();
        due("none yet", x.count(4), 0);
        for (int free = 1; free <= 25; free++) {
            x.run(1);
            due("free", x.count(4), free);
        }
        due("without messages no talk", x.count(9), 0);
        x.run(300);
        due("free", x.count(4), 325);
    }

    private static final String START = "If they have been so for as many ticks as the setting 0 tells, or more, all"
            + " speakers with a message in their line start to talk at once: the talk begins with their first"
            + " messages (the first bits are sent in the next tick).";

    private static void startByTheSetting() {
        sentence("Terms", START);
        for (int free : new int[] {1, 2, 3, 20}) {
            PulledWires x = new PulledWires();
            x.set(0, free);
            x.say(1, 64, 1, NONE);
            if (free > 1) {
                x.run(free - 1);
            }
            due("not yet", x.count(9), 0);
            due("nobody", x.speaker(1, 1), 0);
            x.run(1);
            due("start by " + free, x.count(9), 1);
            due("in the talk", x.speaker(1, 1), 1);
            due("no bit yet", x.bit(0, 0), NONE);
            due("nothing is over", x.count(6), 0);
            due("a bit is next", x.count(2), 1);
            x.run(1);
            due("the first bit", x.bit(0, 2), free + 1);
            due("one is over", x.count(6), 1);
        }
    }

    private static void startByMoreThanTheSetting() {
        sentence("Terms", START);
        PulledWires x = new PulledWires();
        x.run(2);
        due("nobody has a message", x.count(9), 0);
        x.say(0, 64, 1, NONE);
        due("not by the message itself", x.count(9), 0);
        x.run(1);
        due("three are more than two", x.count(9), 1);
        PulledWires y = new PulledWires();
        y.set(0, 20);
        y.say(0, 64, 1, NONE);
        y.run(10);
        y.set(0, 5);
        due("not by the setting itself", y.count(9), 0);
        y.run(1);
        due("eleven are more than five", y.count(9), 1);
        PulledWires z = new PulledWires();
        z.say(0, 64, 1, NONE);
        z.run(1);
        z.set(0, 3);
        z.run(1);
        due("two are less than three", z.count(9), 0);
        z.run(1);
        due("three", z.count(9), 1);
    }

    private static void startOfAllWithAMessage() {
        sentence("Terms", START);
        for (int set = 1; set <= 15; set++) {
            PulledWires x = new PulledWires();
            String talking = "";
            for (int speaker = 0; speaker <= 3; speaker++) {
                boolean has = (set >> speaker & 1) == 1;
                talking += has ? "1" : "0";
                if (has) {
                    x.say(speaker, 64, 1, NONE);
                    x.say(speaker, 0, 1, NONE);
                }
            }
            x.run(2);
            due("all with a message", speakers(x, 1), talking);
            due("one talk", x.count(9), 1);
            x.run(1);
            due("their first messages", x.bit(0, 0), 1);
            due("nobody lost", speakers(x, 3), "0000");
        }
    }

    // ---- Terms: ends of talks, and what is tried again

    private static void endsOfTalks() {
        freeFromBehindTheEnd();
        endWhenAllLost();
        losersTakePartAgain();
        failedOnesAreTriedAgain();
        failedOnesAreDropped();
        failuresOfOneMessage();
    }

    private static void freeFromBehindTheEnd() {
        sentence("Terms", "The wires are free from the tick behind the end of a talk on; free ticks are counted"
                + " from there.)");
        PulledWires x = hearing(5, 0);
        x.run(50);
        x.say(0, 5, 1, NONE);
        x.say(0, 6, 1, NONE);
        due("start at 51, 18 ticks", x.run(19), 1);
        due("free from behind it", x.count(4), 0);
        x.run(1);
        due("one", x.count(4), 1);
        due("not yet", x.count(9), 1);
        x.run(1);
        due("two: the next start", x.count(9), 2);
        x.run(9);
        due("failed", x.speaker(0, 4), 1);
        due("free from behind it", x.count(4), 0);
        x.run(1);
        due("one", x.count(4), 1);
        due("not yet", x.count(9), 2);
        x.run(1);
        due("two: the next start", x.count(9), 3);
    }

    private static void endWhenAllLost() {
        sentence("Terms", "(A talk in which nobody is left, as all lost in the first case, ends.");
        PulledWires x = hearing(64, 0);
        for (int speaker = 0; speaker <= 3; speaker++) {
            x.say(speaker, 64, 1, NONE);
        }
        x.run(2);
        x.stick(1, 2);
        x.run(1);
        due("all lost", speakers(x, 3), "1111");
        due("nobody is left", x.count(1), 0);
        due("no bit is over", x.count(6), 0);
        due("nothing failed", speakers(x, 4), "0000");
        x.run(1);
        due("still stuck: not free", x.count(4), 0);
        x.run(1);
        due("free", x.count(4), 1);
        due("not yet", x.count(9), 1);
        x.run(1);
        due("the next start", x.count(9), 2);
        due("all again", speakers(x, 1), "1111");
        x.run(1);
        due("from its first bit", x.bit(0, 0), 1);
        // In a word, behind bits and answers that are over.
        PulledWires y = hearing(64, 0);
        y.say(2, 64, 128, NONE);
        y.run(11);
        y.stick(1, 1);
        y.run(1);
        due("over", y.count(6), 0);
        due("free", y.count(2), 0);
        due("comes at the next start", y.run(19), 0);
        due("comes at the next start", y.run(1), 1);
        due("one word", y.listener(0, 3), 1);
    }

    private static void losersTakePartAgain() {
        sentence("Terms", "Speakers that lost keep their message, and take part in the next start.");
        PulledWires x = hearing(5, 0);
        x.say(0, 5, 1, NONE);
        x.say(1, 5, 3, NONE);
        x.say(2, 5, 2, NONE);
        due("the least word", x.run(20), 1);
        due("kept", speakers(x, 0), "0110");
        due("it is the same", x.message(1, 0, 1), 3);
        x.run(2);
        due("next start", speakers(x, 1), "0110");
        due("the next word", x.run(18), 1);
        due("kept", speakers(x, 0), "0100");
        due("lost", speakers(x, 3), "0210");
        due("the last word", x.run(20), 1);
        due("none is left", x.count(7), 0);
        due("no failures", speakers(x, 4), "0000");
    }

    private static final String TRIED_AGAIN = "A message that failed is tried again at the next start; behind as"
            + " many failures as the setting 1 tells it is dropped.";

    private static void failedOnesAreTriedAgain() {
        sentence("Terms", TRIED_AGAIN);
        PulledWires x = new PulledWires();
        x.say(0, 5, 1, NONE);
        x.say(0, 5, 2, NONE);
        x.run(11);
        due("failed", x.speaker(0, 6), 1);
        due("kept", x.speaker(0, 0), 2);
        x.run(2);
        due("tried again", x.speaker(0, 1), 1);
        x.hear(3, 5);
        due("comes", x.run(18), 1);
        due("it was the first one", x.message(0, 0, 1), 2);
        due("the next one has not failed", x.speaker(0, 6), 0);
        due("none dropped", x.speaker(0, 5), 0);
        x.hear(3, NONE);
        x.run(11);
        due("the next one has failed once", x.speaker(0, 6), 1);
        due("kept", x.speaker(0, 0), 1);
        x.run(11);
        due("and twice", x.speaker(0, 5), 1);
        due("dropped", x.speaker(0, 0), 0);
    }

    private static void failedOnesAreDropped() {
        sentence("Terms", TRIED_AGAIN);
        for (int most : new int[] {1, 2, 3, 9}) {
            PulledWires x = new PulledWires();
            x.set(1, most);
            x.say(0, 5, 1, NONE);
            x.say(0, 5, 2, NONE);
            if (most > 1) {
                x.run(11 * (most - 1));
            }
            due("not yet", x.speaker(0, 5), 0);
            due("failures", x.speaker(0, 6), most - 1);
            due("in line", x.speaker(0, 0), 2);
            x.run(11);
            due("dropped by " + most, x.speaker(0, 5), 1);
            due("in line", x.speaker(0, 0), 1);
            due("the next one", x.message(0, 0, 1), 2);
            due("it has not failed", x.speaker(0, 6), 0);
            due("failures of all", x.speaker(0, 4), most);
            due("dropped ones do not come", x.speaker(0, 2), 0);
            x.run(11 * most);
            due("the next one too", x.speaker(0, 5), 2);
            due("none is left", x.speaker(0, 0), 0);
            x.run(50);
            due("no more talks", x.count(9), 2 * most);
        }
    }

    private static void failuresOfOneMessage() {
        sentence("Terms", TRIED_AGAIN);
        PulledWires x = new PulledWires();
        x.say(1, 9, 1, NONE);
        x.run(11);
        x.say(0, 0, 1, NONE);
        x.run(11);
        due("a loss is no failure", speakers(x, 6), "1100");
        due("lost", speakers(x, 3), "0100");
        x.run(11);
        due("the other one is dropped", speakers(x, 5), "1000");
        due("kept", speakers(x, 6), "0100");
        x.run(11);
        due("two failures with losses between them", speakers(x, 5), "1100");
        due("lost", speakers(x, 3), "0200");
    }

    // ---- Terms: settings

    private static void settings() {
        sentence("Terms", "(In parentheses: range; first value.) 0: free ticks ahead of a start (1 to 20; 2); 1:"
                + " failures behind which a message is dropped (1 to 9; 2); 2: stuck ticks until listeners are"
                + " shaken free (1 to 99; 10).");
        PulledWires x = new PulledWires();
        int[] most = {20, 9, 99};
        int[] first = {2, 2, 10};
        for (int which = 0; which <= 2; which++) {
            due("first value", x.count(11 + which), first[which]);
            due("below the least", x.set(which, 0), BAD_VALUE);
            due("above the greatest", x.set(which, most[which] + 1), BAD_VALUE);
            due("negative", x.set(which, -1), BAD_VALUE);
            due("as it was", x.count(11 + which), first[which]);
            due("least", x.set(which, 1), first[which]);
            due("least", x.count(11 + which), 1);
            due("greatest", x.set(which, most[which]), 1);
            due("greatest", x.count(11 + which), most[which]);
        }
        due("no setting", x.set(-1, 1), UNKNOWN);
        due("no setting", x.set(3, 1), UNKNOWN);
    }

    // ---- Terms: texts

    private static void texts() {
        eightyCharacters();
        oneOrMoreOrders();
        oneBlankAheadOfNumbers();
        numbersAndZeros();
        digitsTooMany();
        faultsOfTexts();
    }

    /** A text with a fault: its place is answered, and nothing is changed. */
    private static void fault(String text, int at) {
        PulledWires x = typed(text);
        due("perform " + text, x.perform(), -100 - at);
        due("nothing is recorded, " + text, x.count(14), 0);
        due("no tick, " + text, x.count(0), 0);
        due("no message, " + text, x.count(7), 0);
        due("no stop, " + text, x.stopped(0), NONE);
        due("the text stays, " + text, x.count(15), text.length());
    }

    /** A text without a fault, of as many orders, which are all carried out. */
    private static PulledWires good(String text, int orders) {
        PulledWires x = typed(text);
        due("perform " + text, x.perform(), orders);
        due("one act, " + text, x.count(14), 1);
        due("the text stays, " + text, x.count(15), text.length());
        return x;
    }

    private static void eightyCharacters() {
        sentence("Terms", "There is a text of at most 80 characters, empty at first.");
        PulledWires x = new PulledWires();
        due("empty", x.count(15), 0);
        due("empty", x.clearText(), 0);
        for (int n = 1; n <= 80; n++) {
            due("type", x.type('r'), n);
        }
        due("full", x.type('r'), FULL);
        due("full", x.count(15), 80);
        // 10 * 6 + 2 * 7 + 6 are 80 characters, of 10 * 9 + 3 * 99 ticks.
        PulledWires y = good("run 9;".repeat(10) + "run 99;run 99;run 99", 13);
        due("80 characters are read", y.count(0), 387);
        due("no more", y.type(';'), FULL);
        due("as before", y.perform(), 13);
    }

    private static void oneOrMoreOrders() {
        sentence("Terms", "A text of orders is one or more orders with \";\" between two:");
        due("one", good("run 1", 1).count(0), 1);
        due("two", good("run 1;run 2", 2).count(0), 3);
        // Thirteen orders are the most that 80 characters hold.
        due("thirteen", good("run 1;".repeat(12) + "run 1", 13).count(0), 13);
        fault("", 0);
        fault(";", 0);
        fault(";run 1", 0);
        fault("run 1;", 6);
        fault("run 1;;", 6);
        fault("run 1;;run 1", 6);
        fault("run 1run 1", 5);
        fault("run 1,run 1", 5);
        fault("run 1:run 1", 5);
        fault("run 1 run 1", 5);
        fault("run 1;".repeat(12) + "run 1;", 78);
    }

    private static void oneBlankAheadOfNumbers() {
        sentence("Terms", "there is one blank ahead of each number.");
        fault("run1", 3);
        fault("run  1", 4);
        fault("run\t1", 3);
        fault("run\u00a01", 3);
        fault("run\n1", 3);
        fault("run 1 ", 5);
        fault(" run 1", 0);
        fault("run 1; run 1", 6);
        fault("run 1 ;run 1", 5);
        fault("hear0 1", 4);
        fault("hear  0 1", 5);
        fault("hear 0  1", 7);
        fault("hear 01", 6);
        fault("hear 0 1 ", 8);
        fault("hold 0  1", 7);
        fault("stick 0  1", 8);
        fault("say 0  1 2", 6);
        fault("say 0 1  2", 8);
        fault("say 0 1 2  3", 10);
        fault("say 0 1 2 3 ", 11);
    }

    private static void numbersAndZeros() {
        sentence("Terms", "Numbers do not begin with 0, unless they are the single digit 0;");
        good("say 0 0 0 0;hear 0 0;hold 0 0", 3);
        fault("say 00 1 2", 5);
        fault("say 01 1 2", 5);
        fault("say 0 00 2", 7);
        fault("say 0 01 2", 7);
        fault("say 0 1 00", 9);
        fault("say 0 1 02", 9);
        fault("say 0 1 2 00", 11);
        fault("say 0 1 2 03", 11);
        fault("hear 00 1", 6);
        fault("hear 0 01", 8);
        fault("hold 03 1", 6);
        fault("hold 0 00", 8);
        fault("hold 0 09", 8);
        fault("stick 01 1", 7);
        // 0 is below 1: it is not allowed there itself.
        fault("stick 0 0", 8);
        fault("stick 0 01", 8);
        fault("run 0", 4);
        fault("run 01", 4);
        due("a 0 behind another digit", good("run 10;hear 0 100;say 0 100 200", 3).listener(0, 0), 100);
    }

    private static void digitsTooMany() {
        sentence("Terms", "a digit by which a number would be greater than told is not allowed.");
        fault("say 4 1 2", 4);
        fault("say 9 1 2", 4);
        fault("say 10 1 2", 5);
        fault("say 30 1 2", 5);
        fault("say 0 128 2", 8);
        fault("say 0 129 2", 8);
        fault("say 0 130 2", 8);
        fault("say 0 200 2", 8);
        fault("say 0 999 2", 8);
        fault("say 0 1000 2", 9);
        fault("say 0 1270 2", 9);
        fault("say 0 1 256", 10);
        fault("say 0 1 260", 10);
        fault("say 0 1 300", 10);
        fault("say 0 1 1000", 11);
        fault("say 0 1 2550", 11);
        fault("say 0 1 2 256", 12);
        fault("say 0 1 2 2550", 13);
        fault("hear 4 1", 5);
        fault("hear 30 1", 6);
        fault("hear 0 128", 9);
        fault("hear 0 1270", 10);
        fault("hold 4 1", 5);
        fault("hold 0 10", 8);
        fault("hold 0 90", 8);
        fault("stick 4 1", 6);
        fault("stick 0 100", 10);
        fault("stick 0 990", 10);
        fault("run 100", 6);
        fault("run 990", 6);
        fault("run 4294967297", 6);
        // Each digit up to the greatest number is allowed.
        PulledWires x = good("say 3 127 255 255;say 0 99 199 249;hear 3 127;hold 3 9;stick 3 99;run 1", 6);
        due("word", x.message(0, 0, 1), 199);
        due("second word", x.message(0, 0, 2), 249);
    }

    private static void faultsOfTexts() {
        sentence("Terms", "The fault of the text is the index, from 0, of the first character that is not allowed"
                + " at its place, or the length of the text if it ends too early (the empty text does).");
        fault("", 0);
        for (String name : new String[] {"say", "hear", "hold", "stick", "run"}) {
            for (int length = 1; length <= name.length(); length++) {
                fault(name.substring(0, length), length);
                // No other name begins like this with a "z" behind it.
                fault(name.substring(0, length - 1) + "z", length - 1);
            }
            fault(name + "z", name.length());
            fault(name + ";", name.length());
            fault(name + " ", name.length() + 1);
            fault(name + " ;", name.length() + 1);
            fault(name + " z", name.length() + 1);
            fault(name + " -1", name.length() + 1);
            fault("run 9;" + name, 6 + name.length());
        }
        fault("z", 0);
        fault("Run 1", 0);
        fault("rUn 1", 1);
        fault("sear 0 1", 1);
        fault("hick 0 1", 1);
        fault("hoar 0 1", 2);
        fault("held 0 1", 2);
        fault("stay 0 1", 2);
        fault("run 1/", 5);
        fault("run 1:", 5);
        fault("run /", 4);
        fault("run :", 4);
        fault("run 9;hear 0 5;sat", 17);
        // In a full text: at its last character, and behind it.
        fault("run 99;".repeat(11) + "ruz", 79);
        fault("run 99;".repeat(11) + "run", 80);
        // Any other character is none that is allowed, whatever its lower 8 bits are.
        for (char character : new char[] {0, 127, 128, 255, 256, 256 + 'r', 0x0131, 0x0661, 0x3b00, 0xff11, 0xffff}) {
            fault("" + character, 0);
            fault("run 1" + character, 5);
            fault("run " + character, 4);
        }
    }

    private static void orders() {
        sayOrder();
        hearOrder();
        holdOrder();
        stickOrder();
        runOrder();
    }

    private static void sayOrder() {
        sentence("Terms", "\"say\" and a speaker (0 to 3), an address (0 to 127) and a word (0 to 255), and perhaps"
                + " another word;");
        PulledWires x = good("say 0 0 0;say 3 127 255;say 0 0 0 0;say 3 127 255 255", 4);
        due("least", x.message(0, 0, 0), 0);
        due("least", x.message(0, 0, 1), 0);
        due("no other word", x.message(0, 0, 2), NONE);
        due("greatest", x.message(3, 0, 0), 127);
        due("greatest", x.message(3, 0, 1), 255);
        due("no other word", x.message(3, 0, 2), NONE);
        due("least other word", x.message(0, 1, 2), 0);
        due("greatest other word", x.message(3, 1, 2), 255);
        due("each speaker", speakers(good("say 0 1 2;say 1 1 2;say 2 1 2;say 3 1 2", 4), 0), "1111");
        fault("say 0", 5);
        fault("say 0;", 5);
        fault("say 0 1", 7);
        fault("say 0 1;", 7);
        fault("say 0 1 2 ;", 10);
        fault("say 0 1 2 3 4", 11);
        fault("say -1 1 2", 4);
        fault("say 0 -1 2", 6);
        fault("say 0 1 -1", 8);
        fault("say 0 1 2 -5", 10);
    }

    private static void hearOrder() {
        sentence("Terms", "\"hear\" and a listener (0 to 3) and an address;");
        PulledWires x = good("hear 0 0;hear 1 1;hear 2 126;hear 3 127", 4);
        int[] addresses = {0, 1, 126, 127};
        for (int listener = 0; listener <= 3; listener++) {
            due("address", x.listener(listener, 0), addresses[listener]);
        }
        fault("hear 0", 6);
        fault("hear 0;", 6);
        fault("hear 4 0", 5);
        fault("hear -1 0", 5);
        fault("hear 0 128", 9);
        fault("hear 0 -5", 7);
        fault("hear 0 1 2", 8);
    }

    private static void holdOrder() {
        sentence("Terms", "\"hold\" and a listener and ticks (0 to 9);");
        PulledWires x = good("hold 0 9;hold 1 1;hold 2 8;hold 3 9;hold 3 0", 5);
        int[] ticks = {9, 1, 8, 0};
        for (int listener = 0; listener <= 3; listener++) {
            due("holds", x.listener(listener, 1), ticks[listener]);
        }
        fault("hold 0", 6);
        fault("hold 4 0", 5);
        fault("hold 0 10", 8);
        fault("hold 0 -1", 7);
        fault("hold 0 1 2", 8);
    }

    private static void stickOrder() {
        sentence("Terms", "\"stick\" and a listener and ticks (1 to 99);");
        PulledWires x = good("stick 0 1;stick 1 9;stick 2 10;stick 3 99", 4);
        int[] ticks = {1, 9, 10, 99};
        for (int listener = 0; listener <= 3; listener++) {
            due("stuck", x.listener(listener, 2), ticks[listener]);
        }
        fault("stick 0", 7);
        fault("stick 4 1", 6);
        fault("stick 0 0", 8);
        fault("stick 0 100", 10);
        fault("stick 0 1 2", 9);
    }

    private static void runOrder() {
        sentence("Terms", "\"run\" and ticks (1 to 99);");
        due("least", good("run 1", 1).count(0), 1);
        due("greatest", good("run 99", 1).count(0), 99);
        due("others", good("run 9;run 10", 2).count(0), 19);
        fault("run", 3);
        fault("run ", 4);
        fault("run 0", 4);
        fault("run 100", 6);
        fault("run 1 2", 5);
    }

    // ---- Terms: history

    private static void history() {
        fourStatesAreKept();
        statesGoRound();
        actsThatAnswerZeroAreRecorded();
        whatIsNoActIsNotRecorded();
        oneSnapshot();
        whatBelongsToNoState();
        sixtyFourTicksComeBack();
    }

    private static final String HISTORY = "A history of at most 4 states is kept; when one more is recorded, the"
            + " oldest one is dropped; undo() removes and restores the latest one.";

    private static void fourStatesAreKept() {
        sentence("Terms", HISTORY);
        PulledWires x = new PulledWires();
        due("empty at first", x.count(14), 0);
        due("nothing to undo", x.undo(), NONE);
        for (int ticks = 1; ticks <= 4; ticks++) {
            x.hold(0, ticks);
            due("states", x.count(14), ticks);
        }
        for (int left = 3; left >= 0; left--) {
            due("undo", x.undo(), left);
            due("the latest one", x.listener(0, 1), left);
            due("removed", x.count(14), left);
        }
        due("nothing to undo", x.undo(), NONE);
        due("as it was", x.listener(0, 1), 0);
        PulledWires y = new PulledWires();
        for (int ticks = 1; ticks <= 5; ticks++) {
            y.hold(0, ticks);
        }
        due("four at most", y.count(14), 4);
        for (int left = 3; left >= 0; left--) {
            due("undo", y.undo(), left);
            due("the latest one", y.listener(0, 1), left + 1);
        }
        due("the oldest one was dropped", y.undo(), NONE);
        due("as it was", y.listener(0, 1), 1);
    }

    private static void statesGoRound() {
        sentence("Terms", HISTORY);
        PulledWires x = new PulledWires();
        // Eleven ticks are noted, two undone, three more noted, and so on: the four latest ones stay in their order.
        for (int tick = 1; tick <= 11; tick++) {
            x.run(1);
        }
        due("undo", x.undo(), 3);
        due("undo", x.undo(), 2);
        due("clock", x.count(0), 9);
        x.run(10);
        x.run(10);
        x.run(10);
        due("four at most", x.count(14), 4);
        due("clock", x.count(0), 39);
        int[] clocks = {29, 19, 9, 8};
        for (int i = 0; i < 4; i++) {
            due("undo", x.undo(), 3 - i);
            due("clock", x.count(0), clocks[i]);
        }
        due("none is left", x.undo(), NONE);
        x.run(5);
        due("from the beginning", x.count(14), 1);
        due("undo", x.undo(), 0);
        due("clock", x.count(0), 8);
    }

    private static final String RECORDED = "Each call of a method that is described as an act, and returns no error"
            + " and not NONE, records the state that was before it.";

    private static void actsThatAnswerZeroAreRecorded() {
        sentence("Terms", RECORDED);
        PulledWires x = new PulledWires();
        x.keep();
        x.hear(0, 5);
        due("one", x.count(14), 1);
        due("hear answers 0", x.hear(0, NONE), 0);
        due("recorded", x.count(14), 2);
        due("undo", x.undo(), 1);
        due("the state before it", x.listener(0, 0), 5);
        due("hold answers 0", x.hold(0, 1), 0);
        due("recorded", x.count(14), 2);
        due("run answers 0", x.run(1), 0);
        due("recorded", x.count(14), 3);
        due("undo", x.undo(), 2);
        due("the state before it", x.count(0), 0);
        x.say(0, 1, 1, NONE);
        due("takeBack answers 0", x.takeBack(0), 0);
        due("recorded", x.count(14), 4);
        due("undo", x.undo(), 3);
        due("the state before it", x.count(7), 1);
        due("restore answers 0", x.restore(), 0);
        due("recorded", x.count(14), 4);
        due("undo", x.undo(), 3);
        due("the state before it", x.count(7), 1);
    }

    private static void whatIsNoActIsNotRecorded() {
        sentence("Terms", RECORDED);
        PulledWires x = typed("run 1");
        x.say(0, 1, 1, NONE);
        due("one", x.count(14), 1);
        due("so already", x.hold(0, 0), NONE);
        due("so already", x.hear(0, NONE), NONE);
        due("so already", x.set(2, 10), NONE);
        due("none", x.takeBack(1), NONE);
        due("none", x.restore(), NONE);
        due("an error", x.run(301), BAD_VALUE);
        due("no act", x.type('9'), 6);
        due("no act", x.clearText(), 6);
        due("no act", x.keep(), 0);
        x.speaker(0, 0);
        x.message(0, 0, 0);
        x.listener(0, 0);
        x.bit(0, 0);
        x.winners();
        x.emptyIn();
        x.ifRun(0, 300);
        x.stopped(0);
        due("one still", x.count(14), 1);
        due("undo", x.undo(), 0);
        due("the state before it", x.count(7), 0);
        due("undo is no act", x.undo(), NONE);
    }

    private static void oneSnapshot() {
        sentence("Terms", "There is one snapshot, empty at first.");
        PulledWires x = new PulledWires();
        due("empty at first", x.restore(), NONE);
        x.run(1);
        due("empty still", x.restore(), NONE);
        due("keep", x.keep(), 1);
        x.run(1);
        due("in place of it", x.keep(), 2);
        x.run(1);
        due("one alone", x.restore(), 2);
        due("the same one", x.restore(), 2);
    }

    private static void whatBelongsToNoState() {
        sentence("Terms", "A state is everything but the text, the history, the snapshot and the latest stop.");
        PulledWires x = new PulledWires();
        x.keep();
        x.hear(0, 5);
        typeText(x, "run 1;hear 1 5");
        due("stops", x.perform(), NOT_POSSIBLE);
        due("undo", x.undo(), 0);
        due("the text is no part", x.count(15), 14);
        due("the stop is no part", x.stopped(0), 1);
        due("the snapshot is no part", x.restore(), 0);
        due("the text is no part", x.count(15), 14);
        due("the stop is no part", x.stopped(1), NOT_POSSIBLE);
        due("the history is no part", x.count(14), 1);
        x.run(7);
        due("keep", x.keep(), 7);
        x.undo();
        due("undo leaves the snapshot", x.restore(), 7);
        PulledWires y = new PulledWires();
        y.keep();
        y.run(1);
        y.run(1);
        y.keep();
        y.restore();
        due("the snapshot has no history", y.count(14), 3);
        // All the rest is: as it was ahead of each act that changes it.
        List<Integer> before = told(busy());
        for (int act = 0; act <= 8; act++) {
            PulledWires z = busy();
            carryOut(z, act, 0);
            due("undo", z.undo(), 3);
            dueSame("undone act " + act, told(z), before);
            PulledWires w = busy();
            w.keep();
            carryOut(w, act, 13);
            due("restore", w.restore(), 13);
            dueSame("restored behind act " + act, told(w), before);
        }
    }

    private static void sixtyFourTicksComeBack() {
        sentence("Terms", "A state is everything but the text, the history, the snapshot and the latest stop.");
        // Nobody answers: the talk n, from 0, has nine ticks on the wire, from 11 * n + 3 to 11 * n + 11. At 80 there
        // were 64, at 180 16 * 9 + 2: the oldest one that is told is the 83rd then, the second one of the tenth talk.
        PulledWires x = new PulledWires();
        x.set(1, 9);
        x.say(0, 64, 1, NONE);
        x.say(0, 64, 1, NONE);
        x.run(80);
        x.keep();
        x.run(100);
        due("others by then", x.bit(63, 2), 103);
        due("undo", x.undo(), 3);
        for (int back = 0; back <= 63; back++) {
            due("undone " + back, x.bit(back, 2), 11 * ((63 - back) / 9) + 3 + (63 - back) % 9);
        }
        due("undone: no more", x.bit(64, 2), NONE);
        x.run(1);
        due("the oldest one goes", x.bit(63, 2), 4);
        x.run(100);
        due("restore", x.restore(), 80);
        for (int back = 0; back <= 63; back++) {
            due("restored " + back, x.bit(back, 2), 11 * ((63 - back) / 9) + 3 + (63 - back) % 9);
            due("restored " + back, x.bit(back, 1), (63 - back) % 9 == 8 ? 1 : 0);
        }
        due("restored: no more", x.bit(64, 2), NONE);
    }

    private static void carryOut(PulledWires x, int act, int keptAt) {
        switch (act) {
            case 0: due("say", x.say(0, 7, 7, 7), 3); break;
            case 1: due("takeBack", x.takeBack(3), 4); break;
            case 2: due("hear", x.hear(1, 6), 2); break;
            case 3: due("hold", x.hold(0, 9), 3); break;
            case 4: due("stick", x.stick(1, 9), 2); break;
            case 5: due("set", x.set(2, 1), 10); break;
            // Stuck up to 21, held up to 23, an answer at 24, the word's at 36, where one comes; the other one at 48.
            case 6: due("run", x.run(32), 1); break;
            case 7: due("restore", x.restore(), keptAt); break;
            default: due("perform", performText(x, "hear 1 6;run 99"), 2); break;
        }
    }

    // ---- Terms: errors

    /**
     * Two are in the talk, held, and one is stuck; the history is full, a snapshot is kept at the clock 0, and a text
     * was stopped. The address 5 is 0000101: 64 loses at the clock 3, 9 at 6. The clock is held by 3 from 10 on.
     */
    private static PulledWires busy() {
        PulledWires x = typed("run 1;hear 1 5");
        x.hear(0, 5);
        x.hold(0, 3);
        x.set(1, 3);
        x.perform();
        x.say(0, 5, 1, 2);
        x.say(0, 6, 1, NONE);
        x.say(1, 5, 1, NONE);
        x.say(2, 64, 1, NONE);
        x.keep();
        for (int n = 0; n < 5; n++) {
            x.say(3, 9, n, NONE);
        }
        x.run(11);
        x.stick(2, 50);
        x.run(1);
        x.run(1);
        return x;
    }

    private static PulledWires withEmptyLine() {
        PulledWires x = busy();
        x.takeBack(2);
        return x;
    }

    private static PulledWires withHistoryUndone() {
        PulledWires x = busy();
        for (int i = 0; i < 4; i++) {
            x.undo();
        }
        return x;
    }

    private static PulledWires withFullText() {
        PulledWires x = busy();
        typeText(x, "run 99;".repeat(11) + "run");
        return x;
    }

    private static PulledWires withFaultyText() {
        PulledWires x = busy();
        typeText(x, "run 1;hear 1 5;hear 1");
        return x;
    }

    private static void errors() {
        constants();
        orderOfChecks();
        noneOnlyWithoutErrors();
    }

    private static void constants() {
        sentence("Terms", "Errors are reported by the constants below.");
        due("UNKNOWN", PulledWires.UNKNOWN, -1);
        due("BAD_VALUE", PulledWires.BAD_VALUE, -2);
        due("FULL", PulledWires.FULL, -3);
        due("NOT_POSSIBLE", PulledWires.NOT_POSSIBLE, -4);
        due("NONE", PulledWires.NONE, -5);
        PulledWires x = busy();
        sentence("Terms", "The constants: `UNKNOWN = -1`: There is no such speaker, listener, message or setting.");
        due("speaker", x.speaker(4, 0), -1);
        due("listener", x.listener(4, 0), -1);
        due("message", x.message(0, 2, 0), -1);
        due("setting", x.set(3, 1), -1);
        sentence("Terms", "`BAD_VALUE = -2`: Another argument is out of range.");
        due("ticks", x.run(0), -2);
        due("what", x.count(16), -2);
        sentence("Terms", "`FULL = -3`: There is no more room.");
        due("line", x.say(3, 9, 9, NONE), -3);
        due("text", withFullText().type(';'), -3);
        sentence("Terms", "`NOT_POSSIBLE = -4`: This is not possible.");
        due("address", x.hear(1, 5), -4);
        due("first message", x.takeBack(1), -4);
        due("stopped", x.perform(), -4);
        sentence("Terms", "`NONE = -5`: There is no such thing; not an error.");
        due("history", new PulledWires().undo(), -5);
        due("address", x.listener(1, 0), -5);
        due("so already", x.hold(0, 3), -5);
        due("second word", x.message(1, 0, 2), -5);
    }

    private static void orderOfChecks() {
        sentence("Terms", "Where several errors can apply, the order of the @return line is the order of the"
                + " checks.");
        PulledWires x = busy();
        due("say: no speaker, bad values", x.say(4, 128, 256, 256), UNKNOWN);
        due("say: a bad address and a full line", x.say(3, 128, 0, 0), BAD_VALUE);
        due("say: a bad word and a full line", x.say(3, 0, 256, 0), BAD_VALUE);
        due("say: a bad second word and a full line", x.say(3, 0, 0, 256), BAD_VALUE);
        due("hear: no listener, a bad address", x.hear(4, 128), UNKNOWN);
        due("hear: no listener, an address that is had", x.hear(4, 5), UNKNOWN);
        due("hold: no listener, bad ticks", x.hold(4, 10), UNKNOWN);
        due("stick: no listener, bad ticks", x.stick(4, 0), UNKNOWN);
        due("set: no setting, a bad value", x.set(3, 0), UNKNOWN);
        due("speaker: no speaker, a bad what", x.speaker(4, 7), UNKNOWN);
        due("message: no speaker, a bad what", x.message(4, 0, 5), UNKNOWN);
        due("message: no place, a bad what", x.message(0, 2, 5), UNKNOWN);
        due("listener: no listener, a bad what", x.listener(4, 5), UNKNOWN);
        due("ifRun: no speaker, bad ticks", x.ifRun(4, 301), UNKNOWN);
        due("perform: a stop ahead of a fault", withFaultyText().perform(), -121);
        PulledWires end = atClock(99999);
        due("run: too many ticks, no room", end.run(301), BAD_VALUE);
        due("run: too few ticks, no room", end.run(0), BAD_VALUE);
        due("run: no room", end.run(1), FULL);
    }

    private static void noneOnlyWithoutErrors() {
        sentence("Terms", "NONE is no error; it is returned only if no error applies.");
        PulledWires x = new PulledWires();
        due("takeBack: no speaker, no message", x.takeBack(4), UNKNOWN);
        due("hear: no listener, none already", x.hear(4, NONE), UNKNOWN);
        due("hold: no listener, 0 already", x.hold(4, 0), UNKNOWN);
        due("set: no setting", x.set(3, 2), UNKNOWN);
        due("stopped: a bad what, no stop", x.stopped(2), BAD_VALUE);
        due("bit: a bad what, no bit", x.bit(0, 4), BAD_VALUE);
        due("bit: a negative back, no bit", x.bit(-1, 0), BAD_VALUE);
        due("listener: no listener, no address", x.listener(4, 0), UNKNOWN);
        due("message: no message", x.message(0, 0, 2), UNKNOWN);
    }

    private static void refusedActs() {
        refusedSay();
        refusedTakeBackAndHear();
        refusedHoldStickSet();
        refusedRun();
        refusedTexts();
        refusedHistory();
        refusedQuestions();
        questionsChangeNothing();
    }

    private static final String NOTHING = "A call that returns an error or NONE changes nothing (but for the latest"
            + " stop of perform()).";

    private static void refusedSay() {
        sentence("Terms", NOTHING);
        refused(BoundaryTests::busy, "no speaker", x -> x.say(-1, 1, 1, 1), UNKNOWN);
        refused(BoundaryTests::busy, "no speaker", x -> x.say(4, 1, 1, 1), UNKNOWN);
        refused(BoundaryTests::busy, "address", x -> x.say(0, -1, 1, 1), BAD_VALUE);
        refused(BoundaryTests::busy, "address", x -> x.say(0, 128, 1, 1), BAD_VALUE);
        refused(BoundaryTests::busy, "word", x -> x.say(0, 1, -1, 1), BAD_VALUE);
        refused(BoundaryTests::busy, "word", x -> x.say(0, 1, 256, 1), BAD_VALUE);
        refused(BoundaryTests::busy, "second", x -> x.say(0, 1, 1, -1), BAD_VALUE);
        refused(BoundaryTests::busy, "second", x -> x.say(0, 1, 1, 256), BAD_VALUE);
        refused(BoundaryTests::busy, "full", x -> x.say(3, 1, 1, 1), FULL);
    }

    private static void refusedTakeBackAndHear() {
        sentence("Terms", NOTHING);
        refused(BoundaryTests::busy, "no speaker", x -> x.takeBack(-1), UNKNOWN);
        refused(BoundaryTests::busy, "no speaker", x -> x.takeBack(4), UNKNOWN);
        refused(BoundaryTests::busy, "in the talk", x -> x.takeBack(1), NOT_POSSIBLE);
        refused(BoundaryTests::withEmptyLine, "none", x -> x.takeBack(2), NONE);
        refused(PulledWires::new, "none", x -> x.takeBack(2), NONE);
        refused(BoundaryTests::busy, "no listener", x -> x.hear(-1, 1), UNKNOWN);
        refused(BoundaryTests::busy, "no listener", x -> x.hear(4, 1), UNKNOWN);
        refused(BoundaryTests::busy, "address", x -> x.hear(0, -1), BAD_VALUE);
        refused(BoundaryTests::busy, "address", x -> x.hear(0, 128), BAD_VALUE);
        refused(BoundaryTests::busy, "another one has it", x -> x.hear(3, 5), NOT_POSSIBLE);
        refused(BoundaryTests::busy, "so already", x -> x.hear(0, 5), NONE);
        refused(BoundaryTests::busy, "none already", x -> x.hear(3, NONE), NONE);
    }

    private static void refusedHoldStickSet() {
        sentence("Terms", NOTHING);
        refused(BoundaryTests::busy, "no listener", x -> x.hold(-1, 1), UNKNOWN);
        refused(BoundaryTests::busy, "no listener", x -> x.hold(4, 1), UNKNOWN);
        refused(BoundaryTests::busy, "ticks", x -> x.hold(0, -1), BAD_VALUE);
        refused(BoundaryTests::busy, "ticks", x -> x.hold(0, 10), BAD_VALUE);
        refused(BoundaryTests::busy, "so already", x -> x.hold(0, 3), NONE);
        refused(BoundaryTests::busy, "no listener", x -> x.stick(-1, 1), UNKNOWN);
        refused(BoundaryTests::busy, "no listener", x -> x.stick(4, 1), UNKNOWN);
        refused(BoundaryTests::busy, "ticks", x -> x.stick(2, 0), BAD_VALUE);
        refused(BoundaryTests::busy, "ticks", x -> x.stick(2, 100), BAD_VALUE);
        refused(BoundaryTests::busy, "no setting", x -> x.set(-1, 1), UNKNOWN);
        refused(BoundaryTests::busy, "no setting", x -> x.set(3, 1), UNKNOWN);
        for (int which = 0; which <= 2; which++) {
            int setting = which;
            int beyond = new int[] {21, 10, 100}[which];
            int now = new int[] {2, 3, 10}[which];
            refused(BoundaryTests::busy, "value", x -> x.set(setting, 0), BAD_VALUE);
            refused(BoundaryTests::busy, "value", x -> x.set(setting, beyond), BAD_VALUE);
            refused(BoundaryTests::busy, "so already", x -> x.set(setting, now), NONE);
        }
    }

    private static void refusedRun() {
        sentence("Terms", NOTHING);
        for (int ticks : new int[] {LEAST_INT, NONE, -1, 0, 301, MOST_INT}) {
            refused(BoundaryTests::busy, "ticks", x -> x.run(ticks), BAD_VALUE);
        }
        PulledWires x = atClock(99700);
        x.hear(0, 5);
        x.say(0, 5, 1, NONE);
        due("beyond the end", x.run(300), FULL);
        due("no tick", x.count(0), 99700);
        due("nothing comes", x.count(8), 0);
        due("nothing starts", x.count(9), 0);
        due("up to the end", x.run(299), 1);
        due("nothing was recorded by the refused one", x.undo(), 3);
        due("clock", x.count(0), 99700);
        due("undo", x.undo(), 2);
        due("no message", x.count(7), 0);
    }

    private static void refusedTexts() {
        sentence("Terms", NOTHING);
        refused(BoundaryTests::withFullText, "full", x -> x.type('9'), FULL);
        refused(BoundaryTests::withFullText, "ends too early", x -> x.perform(), -180);
        refused(BoundaryTests::withFaultyText, "a fault", x -> x.perform(), -121);
        refused(PulledWires::new, "the empty text", x -> x.perform(), -100);
        // The text is stopped at the same order by the same error as the time before.
        refused(BoundaryTests::busy, "stopped", x -> x.perform(), NOT_POSSIBLE);
        refused(BoundaryTests::busy, "what", x -> x.stopped(-1), BAD_VALUE);
        refused(BoundaryTests::busy, "what", x -> x.stopped(2), BAD_VALUE);
        refused(PulledWires::new, "none", x -> x.stopped(0), NONE);
        // The latest stop alone is another one, whatever was carried out ahead of it.
        PulledWires x = busy();
        due("stopped", performText(x, "say 0 9 9;hold 0 1;stick 1 9;hear 1 7;run 30;say 3 9 9"), NOT_POSSIBLE);
        due("stop", x.stopped(0), 5);
        due("stop", x.stopped(1), FULL);
        dueSame("stopped", told(x), told(busy()));
        due("history", x.count(14), 4);
        due("undo", x.undo(), 3);
        due("clock", x.count(0), 12);
        due("snapshot", x.restore(), 0);
    }

    private static void refusedHistory() {
        sentence("Terms", NOTHING);
        refused(BoundaryTests::withHistoryUndone, "no history", x -> x.undo(), NONE);
        refused(PulledWires::new, "no history", x -> x.undo(), NONE);
        refused(PulledWires::new, "no snapshot", x -> x.restore(), NONE);
        PulledWires x = new PulledWires();
        x.hear(0, 5);
        x.say(0, 5, 1, NONE);
        x.run(5);
        due("no snapshot", x.restore(), NONE);
        due("clock", x.count(0), 5);
        due("in the talk", x.speaker(0, 1), 1);
        due("history", x.count(14), 3);
    }

    private static void refusedQuestions() {
        sentence("Terms", NOTHING);
        refused(BoundaryTests::busy, "no speaker", x -> x.speaker(-1, 0), UNKNOWN);
        refused(BoundaryTests::busy, "what", x -> x.speaker(0, 7), BAD_VALUE);
        refused(BoundaryTests::busy, "no speaker", x -> x.message(4, 0, 0), UNKNOWN);
        refused(BoundaryTests::busy, "no place", x -> x.message(3, 5, 0), UNKNOWN);
        refused(BoundaryTests::busy, "what", x -> x.message(0, 0, 5), BAD_VALUE);
        refused(BoundaryTests::busy, "no listener", x -> x.listener(4, 0), UNKNOWN);
        refused(BoundaryTests::busy, "what", x -> x.listener(0, -1), BAD_VALUE);
        refused(BoundaryTests::busy, "back", x -> x.bit(-1, 0), BAD_VALUE);
        refused(BoundaryTests::busy, "none", x -> x.bit(64, 0), NONE);
        refused(BoundaryTests::busy, "no speaker", x -> x.ifRun(4, 1), UNKNOWN);
        refused(BoundaryTests::busy, "ticks", x -> x.ifRun(0, 301), BAD_VALUE);
        refused(BoundaryTests::busy, "what", x -> x.count(16), BAD_VALUE);
    }

    private static final String EMPTY_IN = "Tells in how many ticks all lines are empty, if nothing else is done.";

    private static final String IF_RUN = "Tells how many messages of a speaker come in some ticks, if nothing else"
            + " is done.";

    private static final String WINNERS = "Tells who would be in the talk to its end, were it started now by all"
            + " speakers with a message, if nobody was stuck: those whose first message loses no bit up to its own"
            + " end (answers do not matter).";

    private static void questionsChangeNothing() {
        sentence("Promise 21", EMPTY_IN);
        refused(BoundaryTests::busy, "emptyIn", x -> x.emptyIn() > 0 ? 1 : 0, 1);
        sentence("Promise 22", IF_RUN);
        refused(BoundaryTests::busy, "ifRun", x -> x.ifRun(1, 300), 1);
        sentence("Promise 20", WINNERS);
        refused(BoundaryTests::busy, "winners", x -> x.winners(), 3);
    }

    // ---- Promises 1 to 8: a new object and the acts

    private static void promisesOfActs() {
        newObject();
        sayArguments();
        sayAnswers();
        sayWhileATalkGoesOn();
        takeBackOfTheFirst();
        takeBackOfTheLast();
        takeBackAndFailures();
        takeBackAnswers();
        hearArguments();
        hearAnswers();
        holdTicks();
        stickTicks();
        stickAnew();
        setArguments();
        runTicks();
        runAnswers();
        runToTheEndOfTheClock();
    }

    private static void newObject() {
        sentence("Promise 1", "Creates free wires without messages and addresses, at the clock 0; they have been"
                + " free for no tick yet.");
        PulledWires x = new PulledWires();
        due("clock", x.count(0), 0);
        due("next tick: free", x.count(2), 0);
        due("free for no tick", x.count(4), 0);
        due("messages", x.count(7), 0);
        for (int i = 0; i <= 3; i++) {
            due("line", x.speaker(i, 0), 0);
            due("message", x.message(i, 0, 0), UNKNOWN);
            due("address", x.listener(i, 0), NONE);
        }
        x.say(0, 64, 1, NONE);
        x.run(1);
        due("one tick is not two", x.count(9), 0);
        x.run(1);
        due("two", x.count(9), 1);
        // All other accounts begin at 0; two objects share nothing.
        PulledWires y = new PulledWires();
        for (int what : new int[] {0, 1, 2, 3, 4, 5, 6, 7, 8, 9, 10, 14, 15}) {
            due("count " + what, y.count(what), 0);
        }
        due("bit", y.bit(0, 0), NONE);
    }

    private static void sayArguments() {
        PulledWires x = new PulledWires();
        int[] beyond = {LEAST_INT, -6, -4, -1, MOST_INT};
        sentence("Promise 2", "`speaker`: 0 to 3");
        due("least", x.say(0, 1, 1, NONE), 1);
        due("greatest", x.say(3, 1, 1, NONE), 1);
        for (int speaker : beyond) due("beyond", x.say(speaker, 1, 1, NONE), UNKNOWN);
        due("beyond", x.say(NONE, 1, 1, NONE), UNKNOWN);
        due("just beyond", x.say(4, 1, 1, NONE), UNKNOWN);
        sentence("Promise 2", "`address`: 0 to 127");
        due("least", x.say(0, 0, 1, NONE), 2);
        due("greatest", x.say(0, 127, 1, NONE), 3);
        for (int address : beyond) due("beyond", x.say(0, address, 1, NONE), BAD_VALUE);
        due("NONE is no address here", x.say(0, NONE, 1, NONE), BAD_VALUE);
        due("just beyond", x.say(0, 128, 1, NONE), BAD_VALUE);
        sentence("Promise 2", "`word`: 0 to 255");
        due("least", x.say(1, 1, 0, NONE), 1);
        due("greatest", x.say(1, 1, 255, NONE), 2);
        for (int word : beyond) due("beyond", x.say(1, 1, word, NONE), BAD_VALUE);
        due("NONE is no word here", x.say(1, 1, NONE, NONE), BAD_VALUE);
        due("just beyond", x.say(1, 1, 256, NONE), BAD_VALUE);
        sentence("Promise 2", "`second`: 0 to 255, or NONE: there is one word alone then");
        due("least", x.say(2, 1, 1, 0), 1);
        due("greatest", x.say(2, 1, 1, 255), 2);
        due("NONE", x.say(2, 1, 1, NONE), 3);
        for (int second : beyond) due("beyond", x.say(2, 1, 1, second), BAD_VALUE);
        due("just beyond", x.say(2, 1, 1, 256), BAD_VALUE);
        due("0 is a word", x.message(2, 0, 2), 0);
        due("27", x.message(2, 0, 3), 27);
        due("255 is a word", x.message(2, 1, 2), 255);
        due("one word alone", x.message(2, 2, 2), NONE);
        due("18", x.message(2, 2, 3), 18);
    }

    private static void sayAnswers() {
        sentence("Promise 2", "Returns how many messages the line has then; UNKNOWN; BAD_VALUE; FULL if it has 5.");
        PulledWires x = new PulledWires();
        for (int n = 1; n <= 5; n++) {
            due("the line", x.say(1, n, n, n), n);
            due("another line", x.say(3, n, n, NONE), n);
        }
        due("full", x.say(1, 6, 6, 6), FULL);
        due("full", x.say(3, 6, 6, NONE), FULL);
        due("bad value ahead of full", x.say(3, 128, 6, NONE), BAD_VALUE);
        due("one less", x.takeBack(1), 4);
        due("not full", x.say(1, 6, 6, 6), 5);
        due("full", x.say(1, 7, 7, 7), FULL);
        due("an empty line", x.say(0, 1, 1, NONE), 1);
        due("the last one", x.message(1, 4, 0), 6);
        due("the one ahead of it", x.message(1, 3, 0), 4);
    }

    private static void sayWhileATalkGoesOn() {
        sentence("Promise 2", "Adds a message to a line. This is an act.");
        PulledWires x = hearing(5, 0);
        x.say(0, 5, 1, NONE);
        x.run(5);
        due("behind the one that is sent", x.say(0, 5, 0, NONE), 2);
        due("the first one is as it was", x.message(0, 0, 1), 1);
        due("the last one", x.message(0, 1, 1), 0);
        due("an act", x.count(14), 4);
        due("the one that was sent comes", x.run(15), 1);
        due("its word", x.listener(0, 4), 1);
        due("then the other one", x.run(20), 1);
        due("its word", x.listener(0, 4), 0);
    }

    private static final String TAKE_BACK = "Takes the last message of a line away; the first one not while its"
            + " speaker is in the talk. This is an act.";

    private static void takeBackOfTheFirst() {
        sentence("Promise 3", TAKE_BACK);
        PulledWires x = hearing(5, 1);
        x.say(0, 5, 1, 2);
        x.say(1, 5, 1, NONE);
        x.say(1, 9, 9, NONE);
        x.say(2, 9, 1, NONE);
        x.run(1);
        x.say(3, 9, 1, NONE);
        due("ahead of the start", x.takeBack(3), 0);
        x.run(1);
        x.say(3, 9, 1, NONE);
        due("not in the talk, as it began before", x.takeBack(3), 0);
        due("in the talk", x.takeBack(2), NOT_POSSIBLE);
        x.run(4);
        due("lost at the fourth bit", x.speaker(2, 3), 1);
        due("lost: not in the talk", x.takeBack(2), 0);
        due("in the talk", x.takeBack(0), NOT_POSSIBLE);
        x.run(4);
        due("held", x.count(2), 3);
        due("held: in the talk", x.takeBack(0), NOT_POSSIBLE);
        x.run(1);
        due("at an answer", x.count(2), 2);
        due("at an answer: in the talk", x.takeBack(0), NOT_POSSIBLE);
        x.stick(3, 1);
        due("stuck: in the talk", x.takeBack(0), NOT_POSSIBLE);
        // Stuck at 12, answered at 13; the word and its answer are over at 23.
        due("the short one comes", x.run(12), 1);
        due("it left the talk: the next one can be had", x.takeBack(1), 0);
        due("in the talk still", x.takeBack(0), NOT_POSSIBLE);
        due("in line", x.speaker(0, 0), 1);
        due("the long one comes", x.run(10), 1);
        due("none is left", x.takeBack(0), NONE);
    }

    private static void takeBackOfTheLast() {
        sentence("Promise 3", TAKE_BACK);
        PulledWires x = new PulledWires();
        for (int n = 1; n <= 5; n++) {
            x.say(0, n, n, n);
        }
        x.run(2);
        due("in the talk", x.speaker(0, 1), 1);
        for (int left = 4; left >= 1; left--) {
            due("the last one", x.takeBack(0), left);
            due("there no more", x.message(0, left, 0), UNKNOWN);
            due("the one ahead of it", x.message(0, left - 1, 0), left);
        }
        due("the first one", x.takeBack(0), NOT_POSSIBLE);
        due("it is there", x.message(0, 0, 2), 1);
        x.run(9);
        due("failed: out of the talk", x.takeBack(0), 0);
        due("an act", x.undo(), 3);
        due("it is back", x.message(0, 0, 2), 1);
    }

    private static void takeBackAndFailures() {
        sentence("Promise 3", TAKE_BACK);
        PulledWires x = new PulledWires();
        x.say(0, 9, 1, NONE);
        x.say(0, 9, 2, NONE);
        x.run(11);
        due("the second one", x.takeBack(0), 1);
        due("failures of the first stay", x.speaker(0, 6), 1);
        due("the first one", x.takeBack(0), 0);
        due("no first one", x.speaker(0, 6), 0);
        due("failures so far", x.speaker(0, 4), 1);
        due("it was not dropped", x.speaker(0, 5), 0);
        x.say(0, 9, 3, NONE);
        due("a new first one", x.speaker(0, 6), 0);
        x.run(11);
        due("has failed once", x.speaker(0, 6), 1);
        due("in line", x.speaker(0, 0), 1);
        x.run(11);
        due("and twice", x.speaker(0, 5), 1);
    }

    private static void takeBackAnswers() {
        PulledWires x = new PulledWires();
        sentence("Promise 3", "`speaker`: 0 to 3");
        for (int speaker : new int[] {LEAST_INT, NONE, -1, 4, MOST_INT}) due("beyond", x.takeBack(speaker), UNKNOWN);
        for (int speaker = 0; speaker <= 3; speaker++) due("within", x.takeBack(speaker), NONE);
        sentence("Promise 3", "Returns how many are left; UNKNOWN; NOT_POSSIBLE if it is the first one, and the"
                + " speaker is in the talk; NONE if there is none.");
        x.say(3, 1, 1, NONE);
        x.say(3, 2, 2, NONE);
        due("one is left", x.takeBack(3), 1);
        due("none is left", x.takeBack(3), 0);
        due("there is none", x.takeBack(3), NONE);
        due("four acts", x.count(14), 4);
        for (int n = 1; n <= 5; n++) x.say(3, n, n, NONE);
        due("of a full line", x.takeBack(3), 4);
        x.run(2);
        due("not the first one", x.takeBack(3), 3);
        due("not the first one", x.takeBack(3), 2);
        due("not the first one", x.takeBack(3), 1);
        due("the first one, in the talk", x.takeBack(3), NOT_POSSIBLE);
        due("there is none, while others talk", x.takeBack(0), NONE);
    }

    private static void hearArguments() {
        PulledWires x = new PulledWires();
        sentence("Promise 4", "`listener`: 0 to 3");
        due("least", x.hear(0, 9), 1);
        due("greatest", x.hear(3, 10), 2);
        for (int listener : new int[] {LEAST_INT, NONE, -1, 4, MOST_INT}) due("beyond", x.hear(listener, 11), UNKNOWN);
        sentence("Promise 4", "`address`: 0 to 127, or NONE: it has none then");
        due("least", x.hear(0, 0), 2);
        due("least", x.listener(0, 0), 0);
        due("greatest", x.hear(0, 127), 2);
        due("greatest", x.listener(0, 0), 127);
        for (int address : new int[] {LEAST_INT, -6, -4, -1, 128, MOST_INT}) {
            due("beyond", x.hear(0, address), BAD_VALUE);
        }
        due("as it was", x.listener(0, 0), 127);
        due("none", x.hear(0, NONE), 1);
        due("it has none then", x.listener(0, 0), NONE);
        sentence("Promise 4", "Gives a listener an address. This is an act.");
        due("acts", x.undo(), 3);
        due("the address that was", x.listener(0, 0), 127);
        x.say(0, 127, 3, NONE);
        due("it hears it", x.run(20), 1);
        due("the word", x.listener(0, 4), 3);
    }

    private static void hearAnswers() {
        sentence("Promise 4", "Returns how many listeners have an address then; UNKNOWN; BAD_VALUE; NOT_POSSIBLE if"
                + " another one has it; NONE if it is so already.");
        PulledWires x = new PulledWires();
        due("none already", x.hear(2, NONE), NONE);
        for (int listener = 0; listener <= 3; listener++) {
            due("have one", x.hear(listener, listener), listener + 1);
        }
        due("still four", x.hear(0, 127), 4);
        due("another one has it", x.hear(1, 127), NOT_POSSIBLE);
        due("another one has it", x.hear(0, 3), NOT_POSSIBLE);
        due("no one has it", x.hear(1, 0), 4);
        due("so already", x.hear(1, 0), NONE);
        for (int listener = 0; listener <= 3; listener++) {
            due("none: not had by another one", x.hear(listener, NONE), 3 - listener);
            due("none already", x.hear(listener, NONE), NONE);
        }
        due("have one", x.hear(3, 127), 1);
    }

    private static void holdTicks() {
        PulledWires x = new PulledWires();
        sentence("Promise 5", "`listener`: 0 to 3");
        due("least", x.hold(0, 1), 0);
        due("greatest", x.hold(3, 2), 0);
        due("each its own", x.listener(0, 1), 1);
        due("each its own", x.listener(3, 1), 2);
        due("each its own", x.listener(1, 1), 0);
        for (int listener : new int[] {LEAST_INT, NONE, -1, 4, MOST_INT}) due("beyond", x.hold(listener, 1), UNKNOWN);
        sentence("Promise 5", "`ticks`: 0 to 9");
        due("greatest", x.hold(0, 9), 1);
        due("greatest", x.listener(0, 1), 9);
        for (int ticks : new int[] {LEAST_INT, NONE, -1, 10, MOST_INT}) due("beyond", x.hold(0, ticks), BAD_VALUE);
        due("as it was", x.listener(0, 1), 9);
        due("least", x.hold(0, 0), 9);
        due("least", x.listener(0, 1), 0);
        sentence("Promise 5", "Returns the previous number; UNKNOWN; BAD_VALUE; NONE if it is so already.");
        due("0 already", x.hold(0, 0), NONE);
        due("previous: 0", x.hold(0, 9), 0);
        due("9 already", x.hold(0, 9), NONE);
        due("previous: 9", x.hold(0, 8), 9);
        sentence("Promise 5", "Tells for how many ticks a listener holds the clock. This is an act.");
        due("undo", x.undo(), 3);
        due("as before", x.listener(0, 1), 9);
        due("undo", x.undo(), 2);
        due("as before", x.listener(0, 1), 0);
    }

    private static void stickTicks() {
        PulledWires x = new PulledWires();
        sentence("Promise 6", "`listener`: 0 to 3");
        due("least", x.stick(0, 5), 1);
        due("greatest", x.stick(3, 6), 2);
        due("each its own", x.listener(0, 2), 5);
        due("each its own", x.listener(3, 2), 6);
        for (int listener : new int[] {LEAST_INT, NONE, -1, 4, MOST_INT}) due("beyond", x.stick(listener, 5), UNKNOWN);
        sentence("Promise 6", "`ticks`: 1 to 99");
        due("least", x.stick(0, 1), 2);
        due("least", x.listener(0, 2), 1);
        due("greatest", x.stick(0, 99), 2);
        due("greatest", x.listener(0, 2), 99);
        for (int ticks : new int[] {LEAST_INT, NONE, -1, 0, 100, MOST_INT}) due("beyond", x.stick(0, ticks), BAD_VALUE);
        due("as it was", x.listener(0, 2), 99);
        sentence("Promise 6", "Returns how many listeners are stuck then; UNKNOWN; BAD_VALUE.");
        due("three", x.stick(1, 1), 3);
        due("four", x.stick(2, 1), 4);
        due("four still", x.stick(2, 1), 4);
        x.run(1);
        due("two of them are stuck no more", x.stick(0, 1), 2);
        x.run(4);
        due("one", x.stick(0, 1), 2);
        x.run(1);
        due("alone", x.stick(1, 1), 1);
    }

    private static void stickAnew() {
        sentence("Promise 6", "A listener is stuck from now on (in place of what it was told before). This is an"
                + " act.");
        PulledWires x = new PulledWires();
        x.stick(0, 99);
        due("less than before", x.stick(0, 2), 1);
        due("not both", x.listener(0, 2), 2);
        due("more than before", x.stick(0, 3), 1);
        due("not both", x.listener(0, 2), 3);
        due("the same is an act too", x.stick(0, 3), 1);
        due("acts", x.count(14), 4);
        due("from the next tick on", x.count(5), 0);
        x.run(3);
        due("stuck for three", x.count(5), 3);
        due("free", x.listener(0, 2), 0);
        due("undo", x.undo(), 3);
        due("stuck", x.listener(0, 2), 3);
    }

    private static void setArguments() {
        PulledWires x = new PulledWires();
        sentence("Promise 7", "`which`: 0 to 2");
        for (int which : new int[] {LEAST_INT, NONE, -1, 3, MOST_INT}) due("beyond", x.set(which, 1), UNKNOWN);
        sentence("Promise 7", "`value`: in its range");
        int[] most = {20, 9, 99};
        int[] first = {2, 2, 10};
        for (int which = 0; which <= 2; which++) {
            for (int value : new int[] {LEAST_INT, NONE, -1, 0, most[which] + 1, MOST_INT}) {
                due("beyond", x.set(which, value), BAD_VALUE);
            }
            due("as it was", x.count(11 + which), first[which]);
            sentence("Promise 7", "Returns the previous one; UNKNOWN; BAD_VALUE; NONE if it is so already.");
            due("so already", x.set(which, first[which]), NONE);
            due("greatest", x.set(which, most[which]), first[which]);
            due("so already", x.set(which, most[which]), NONE);
            due("least", x.set(which, 1), most[which]);
            due("so already", x.set(which, 1), NONE);
            due("the others are as they were", x.count(11 + (which + 2) % 3), which == 0 ? 10 : 1);
        }
        sentence("Promise 7", "Sets a setting. This is an act.");
        due("acts", x.undo(), 3);
        due("as before", x.count(13), 99);
        due("undo", x.undo(), 2);
        due("as before", x.count(13), 10);
    }

    private static void runTicks() {
        sentence("Promise 8", "`ticks`: 1 to 300");
        PulledWires x = new PulledWires();
        for (int ticks : new int[] {LEAST_INT, NONE, -1, 0, 301, MOST_INT}) due("beyond", x.run(ticks), BAD_VALUE);
        due("no tick", x.count(0), 0);
        due("least", x.run(1), 0);
        due("clock", x.count(0), 1);
        due("greatest", x.run(300), 0);
        due("clock", x.count(0), 301);
        sentence("Promise 8", "Lets ticks pass. This is an act.");
        due("each is one act", x.count(14), 2);
        due("undo", x.undo(), 1);
        due("clock", x.count(0), 1);
        due("undo", x.undo(), 0);
        due("clock", x.count(0), 0);
    }

    private static final String RUN_ANSWER = "Returns how many messages come in them; BAD_VALUE; FULL if the clock"
            + " would be beyond 99999.";

    private static void runAnswers() {
        sentence("Promise 8", RUN_ANSWER);
        // Four speakers with the same five messages: each talk brings four, in 20 ticks.
        PulledWires x = hearing(5, 0);
        for (int n = 1; n <= 5; n++) {
            for (int speaker = 0; speaker <= 3; speaker++) x.say(speaker, 5, n, NONE);
        }
        due("four talks", x.run(99), 16);
        due("the last tick brings four", x.run(1), 4);
        due("all in one", x.undo(), 3);
        due("undo", x.undo(), 2);
        due("all in one", x.run(100), 20);
        due("none in line", x.run(300), 0);
        // Those that are dropped, or came before, do not count.
        PulledWires y = hearing(5, 0);
        y.say(0, 4, 1, NONE);
        y.say(0, 5, 1, NONE);
        due("dropped at 22", y.run(22), 0);
        due("comes at 42", y.run(20), 1);
        y.say(0, 5, 1, NONE);
        due("not yet", y.run(19), 0);
        due("not those before", y.run(1), 1);
        due("came", y.count(8), 2);
    }

    private static void runToTheEndOfTheClock() {
        sentence("Promise 8", RUN_ANSWER);
        PulledWires x = atClock(99699);
        due("clock", x.count(0), 99699);
        due("up to 99999", x.run(300), 0);
        due("clock", x.count(0), 99999);
        due("beyond", x.run(1), FULL);
        due("beyond", x.run(300), FULL);
        due("bad value ahead of full", x.run(301), BAD_VALUE);
        due("bad value ahead of full", x.run(MOST_INT), BAD_VALUE);
        due("no tick", x.count(0), 99999);
        due("undo", x.undo(), 3);
        due("to 99998", x.run(299), 0);
        due("beyond by one", x.run(2), FULL);
        due("no tick", x.count(0), 99998);
        due("the last tick", x.run(1), 0);
        due("clock", x.count(0), 99999);
        due("other acts go on", x.hear(0, 5), 1);
    }

    // ---- Promises 9 to 12: texts

    private static void promisesOfTexts() {
        typeCharacters();
        clearTexts();
        performAll();
        performStops();
        performAnswers();
        stoppedAnswers();
    }

    private static void typeCharacters() {
        sentence("Promise 9", "`character`: any character");
        PulledWires x = new PulledWires();
        char[] characters = {0, ' ', ';', 'r', 127, 128, 255, 256, 0xd800, 0xffff};
        for (int i = 0; i < characters.length; i++) due("type", x.type(characters[i]), i + 1);
        due("each is one", x.count(15), 10);
        sentence("Promise 9", "Types a character behind the text.");
        PulledWires y = typed("ru");
        due("too short", y.perform(), -102);
        y.type('n');
        y.type(' ');
        y.type('7');
        due("behind the text", y.perform(), 1);
        due("clock", y.count(0), 7);
        due("no act", y.count(14), 1);
        sentence("Promise 9", "Returns the length of the text then; FULL if it has 80 characters.");
        PulledWires z = typed("run 99;".repeat(11) + "ru");
        due("79", z.count(15), 79);
        due("the 80th", z.type('n'), 80);
        due("full", z.type(' '), FULL);
        due("full", z.type((char) 0), FULL);
        due("as it was", z.perform(), -180);
        due("cleared", z.clearText(), 80);
        due("from the beginning", z.type('r'), 1);
    }

    private static void clearTexts() {
        sentence("Promise 10", "Returns the length that it had.");
        PulledWires x = new PulledWires();
        due("0", x.clearText(), 0);
        x.type('r');
        due("1", x.clearText(), 1);
        due("0 then", x.clearText(), 0);
        typeText(x, ";".repeat(80));
        due("80", x.clearText(), 80);
        sentence("Promise 10", "Empties the text.");
        due("empty", x.count(15), 0);
        due("the fault of the empty text", x.perform(), -100);
        due("nothing is left of it", performText(x, "run 5"), 1);
        due("clock", x.count(0), 5);
        due("one act", x.count(14), 1);
    }

    private static final String ALL_OR_NONE = "Carries out the orders of the text, which stays, one after the other;"
            + " all of them, or none.";

    private static final String STOPS = "An order that does nothing (it would return NONE) does not stop it; one"
            + " that would return an error stops it.";

    private static void performAll() {
        sentence("Promise 11", ALL_OR_NONE);
        PulledWires x = good("hear 0 5;say 0 5 7;run 20;hear 0 6;hear 1 5;say 1 5 8;run 20", 7);
        due("one after the other", x.listener(0, 4), 7);
        due("one after the other", x.listener(1, 4), 8);
        due("clock", x.count(0), 40);
        due("it stays: again, from what is now", x.perform(), NOT_POSSIBLE);
        due("the first order", x.stopped(0), 0);
        due("none of them", x.count(0), 40);
        PulledWires y = good("run 30", 1);
        due("it stays", y.perform(), 1);
        due("clock", y.count(0), 60);
        sentence("Promise 11", "This is one act.");
        PulledWires z = good("hear 0 5;say 0 5 7;run 20", 3);
        due("one act", z.undo(), 0);
        due("all of it is undone", z.count(0), 0);
        due("all of it is undone", z.listener(0, 0), NONE);
        PulledWires w = new PulledWires();
        for (int n = 0; n < 5; n++) performText(w, "run 1;run 1;run 1");
        due("four at most", w.count(14), 4);
        due("undo", w.undo(), 3);
        due("clock", w.count(0), 12);
        sentence("Promise 11", STOPS);
        PulledWires v = good("hold 0 0;hear 0 5;hear 0 5;hold 0 0;run 1", 5);
        due("carried out", v.count(0), 1);
        due("no stop", v.stopped(0), NONE);
        due("all of them do nothing", performText(v, "hold 0 0;hear 0 5"), 2);
        due("an act nevertheless", v.count(14), 2);
        due("no stop", v.stopped(1), NONE);
    }

    private static void performStops() {
        sentence("Promise 11", STOPS);
        PulledWires x = hearing(5, 0);
        for (int n = 1; n <= 4; n++) x.say(3, 5, n, NONE);
        due("the line becomes full", performText(x, "say 3 5 5"), 1);
        due("the line is full", performText(x, "say 3 5 6"), NOT_POSSIBLE);
        due("FULL", x.stopped(1), FULL);
        due("room is made in time", performText(x, "run 20;say 3 5 6"), 2);
        due("five", x.speaker(3, 0), 5);
        due("another one has it", performText(x, "run 1;hear 1 5"), NOT_POSSIBLE);
        due("NOT_POSSIBLE", x.stopped(1), NOT_POSSIBLE);
        due("given up in time", performText(x, "hear 0 6;hear 1 5"), 2);
        sentence("Promise 11", ALL_OR_NONE);
        PulledWires y = atClock(99900);
        due("up to the end", performText(y, "hold 0 1;run 98;run 1"), 3);
        due("clock", y.count(0), 99999);
        due("undo", y.undo(), 3);
        due("beyond the end", performText(y, "hold 0 1;run 99;run 1"), NOT_POSSIBLE);
        due("FULL", y.stopped(1), FULL);
        due("none of them", y.count(0), 99900);
        due("none of them", y.listener(0, 1), 0);
        due("no act", y.count(14), 3);
    }

    private static void performAnswers() {
        sentence("Promise 11", "Returns how many orders there are; -100 minus the fault of the text if it has one"
                + " (which is an error); NOT_POSSIBLE if any is stopped.");
        due("least", typed("run 1").perform(), 1);
        due("greatest", typed("run 1;".repeat(12) + "run 1").perform(), 13);
        due("least fault", typed("").perform(), -100);
        due("least fault", typed("x").perform(), -100);
        due("greatest fault", typed("run 99;".repeat(11) + "run").perform(), -180);
        due("the one ahead of it", typed("run 99;".repeat(11) + "ru;").perform(), -179);
        PulledWires x = hearing(5, 0);
        due("the first is stopped", performText(x, "hear 1 5"), NOT_POSSIBLE);
        due("the last is stopped", performText(x, "run 1;".repeat(8) + "hear 1 5"), NOT_POSSIBLE);
        due("the ninth", x.stopped(0), 8);
        due("a fault behind an order that would be stopped", performText(x, "say 0 1 1;hear 1 5;run 0"), -123);
        due("it is no stop", x.stopped(0), 8);
        due("none is carried out", x.count(7), 0);
        due("no act", x.count(14), 1);
    }

    private static void stoppedAnswers() {
        PulledWires x = new PulledWires();
        sentence("Promise 12", "`what`: 0 for the number of the order in its text, from 0, 1 for the error");
        for (int what : new int[] {LEAST_INT, NONE, -1, 2, MOST_INT}) due("beyond", x.stopped(what), BAD_VALUE);
        sentence("Promise 12", "Returns the number; BAD_VALUE; NONE if none was stopped yet.");
        due("none yet", x.stopped(0), NONE);
        due("none yet", x.stopped(1), NONE);
        performText(x, "hear 0 5;run 1");
        due("none yet", x.stopped(0), NONE);
        performText(x, "hear 1 5;run");
        due("a fault is no stop", x.stopped(1), NONE);
        performText(x, "hear 1 5");
        due("from 0", x.stopped(0), 0);
        due("the error", x.stopped(1), NOT_POSSIBLE);
        // 12 * 6 + 5 characters: only a run is as short as that.
        PulledWires y = atClock(99987);
        due("the thirteenth", performText(y, "run 1;".repeat(12) + "run 1"), NOT_POSSIBLE);
        due("greatest", y.stopped(0), 12);
        due("the error", y.stopped(1), FULL);
        sentence("Promise 12", "Tells of the latest stop of perform().");
        x.say(0, 1, 1, 1);
        performText(x, "say 0 1 1;say 0 1 1;say 0 1 1;say 0 1 1;say 0 1 1;run 1");
        due("the latest one", x.stopped(0), 4);
        due("the latest one", x.stopped(1), FULL);
        due("a good one", performText(x, "run 1"), 1);
        x.clearText();
        x.undo();
        x.keep();
        x.restore();
        x.run(301);
        due("the latest one still", x.stopped(0), 4);
        due("the latest one still", x.stopped(1), FULL);
        for (int what : new int[] {-1, 2}) due("beyond", x.stopped(what), BAD_VALUE);
    }

    // ---- Promises 13 to 15: history

    private static void promisesOfHistory() {
        undoAnswers();
        keepAnswers();
        restoreAnswers();
    }

    private static void undoAnswers() {
        sentence("Promise 13", "Returns the number of states that are left; NONE if the history is empty.");
        PulledWires x = new PulledWires();
        due("empty", x.undo(), NONE);
        x.hear(0, 5);
        due("0 are left", x.undo(), 0);
        due("empty", x.undo(), NONE);
        due("empty", x.count(14), 0);
        for (int n = 1; n <= 6; n++) x.say(n % 4, 5, n, NONE);
        for (int left = 3; left >= 0; left--) due("left", x.undo(), left);
        due("empty", x.undo(), NONE);
        due("two of the six are there", x.count(7), 2);
        sentence("Promise 13", "Removes and restores the latest state of the history.");
        x.set(0, 7);
        x.set(0, 8);
        due("the latest", x.undo(), 1);
        due("setting", x.count(11), 7);
        x.set(0, 9);
        due("the removed one does not come back", x.undo(), 1);
        due("setting", x.count(11), 7);
        due("the one ahead of it", x.undo(), 0);
        due("setting", x.count(11), 2);
        due("what was undone can be done again", x.set(0, 9), 2);
    }

    private static void keepAnswers() {
        sentence("Promise 14", "Returns the clock.");
        PulledWires x = new PulledWires();
        due("least", x.keep(), 0);
        PulledWires y = atClock(99999);
        due("greatest", y.keep(), 99999);
        due("greatest", y.restore(), 99999);
        sentence("Promise 14", "Takes a snapshot of the state, in place of the one that was.");
        x.hear(0, 5);
        x.say(0, 5, 1, 2);
        x.run(7);
        due("clock", x.keep(), 7);
        due("no act", x.count(14), 3);
        x.run(22);
        x.takeBack(0);
        x.hear(0, 6);
        due("in place of the one that was", x.restore(), 7);
        due("the talk", x.speaker(0, 1), 1);
        due("address", x.listener(0, 0), 5);
        due("comes as it was due", x.run(22), 1);
        due("the same state again", x.keep(), 29);
        due("and its clock", x.restore(), 29);
    }

    private static void restoreAnswers() {
        sentence("Promise 15", "Returns the clock then; NONE if there is no snapshot.");
        PulledWires x = new PulledWires();
        due("none", x.restore(), NONE);
        x.run(3);
        due("none", x.restore(), NONE);
        due("clock", x.count(0), 3);
        due("no act", x.count(14), 1);
        x.keep();
        x.run(4);
        due("clock then", x.restore(), 3);
        sentence("Promise 15", "Restores the state of the snapshot, which stays. This is an act.");
        due("an act", x.count(14), 3);
        due("it is so already, and an act", x.restore(), 3);
        due("an act", x.count(14), 4);
        due("once more", x.restore(), 3);
        due("four at most", x.count(14), 4);
        x.hear(0, 5);
        x.say(0, 5, 1, NONE);
        x.run(90);
        due("which stays", x.restore(), 3);
        due("no address", x.listener(0, 0), NONE);
        due("undo", x.undo(), 3);
        due("the state before it", x.count(0), 93);
        due("came", x.count(8), 1);
        due("which stays", x.restore(), 3);
    }

    // ---- Promises 16 to 23: what is told

    private static void promisesOfWhatIsTold() {
        speakerArguments();
        speakerAnswers();
        messageArguments();
        messageAnswers();
        ticksOfMessages();
        listenerArguments();
        listenerAnswers();
        bitArguments();
        bitAnswers();
        sixtyFourTicks();
        winnersOfNoneAndAll();
        winnersByTheirBits();
        winnersOfNow();
        emptyInFromZero();
        emptyInUpToThousand();
        emptyInOfDropped();
        ifRunArguments();
        ifRunAnswers();
        countArguments();
        countNextTicks();
        countTalks();
        countAccounts();
        countHistoryAndText();
    }

    private static final String SPEAKER_WHAT = "`what`: 0 for messages in its line, 1 for whether it is in the talk"
            + " (1, otherwise 0), 2 for messages that came so far, 3 for talks that it lost so far, 4 for failures"
            + " so far, 5 for messages that were dropped so far, 6 for failures of its first message";

    private static void speakerArguments() {
        PulledWires x = new PulledWires();
        int[] beyond = {LEAST_INT, NONE, -1, MOST_INT};
        sentence("Promise 16", "`speaker`: 0 to 3");
        due("least", x.speaker(0, 0), 0);
        due("greatest", x.speaker(3, 0), 0);
        for (int speaker : beyond) due("beyond", x.speaker(speaker, 0), UNKNOWN);
        due("just beyond", x.speaker(4, 0), UNKNOWN);
        sentence("Promise 16", SPEAKER_WHAT);
        due("greatest", x.speaker(3, 6), 0);
        for (int what : beyond) due("beyond", x.speaker(3, what), BAD_VALUE);
        due("just beyond", x.speaker(3, 7), BAD_VALUE);
        sentence("Promise 16", "Returns the number; UNKNOWN; BAD_VALUE.");
        due("both", x.speaker(4, 7), UNKNOWN);
        due("both", x.speaker(-1, -1), UNKNOWN);
    }

    private static void speakerAnswers() {
        sentence("Promise 16", SPEAKER_WHAT);
        PulledWires x = hearing(5, 0);
        x.say(0, 5, 1, NONE);
        x.say(0, 9, 1, NONE);
        x.say(0, 5, 2, NONE);
        x.say(2, 5, 1, 9);
        x.say(3, 64, 1, NONE);
        due("lines", speakers(x, 0), "3011");
        due("in the talk", speakers(x, 1), "0000");
        x.run(2);
        due("in the talk", speakers(x, 1), "1011");
        x.run(18);
        due("lines", speakers(x, 0), "2011");
        due("in the talk", speakers(x, 1), "0010");
        due("came", speakers(x, 2), "1000");
        due("lost", speakers(x, 3), "0001");
        x.run(9);
        due("came", speakers(x, 2), "1010");
        // 9 of speaker 0 and 64 of speaker 3: the first one wins twice, fails and is dropped; then 5; then 64 alone.
        x.run(11);
        due("failures", speakers(x, 4), "1000");
        due("of the first", speakers(x, 6), "1000");
        due("dropped", speakers(x, 5), "0000");
        x.run(11);
        due("failures", speakers(x, 4), "2000");
        due("of the first", speakers(x, 6), "0000");
        due("dropped", speakers(x, 5), "1000");
        due("lost", speakers(x, 3), "0003");
        x.run(20);
        due("came", speakers(x, 2), "2010");
        due("lost", speakers(x, 3), "0004");
        x.run(22);
        due("failures", speakers(x, 4), "2002");
        due("dropped", speakers(x, 5), "1001");
        due("lines", speakers(x, 0), "0000");
        due("of none", speakers(x, 6), "0000");
    }

    private static final String MESSAGE_WHAT = "`what`: 0 for the address, 1 for the word, 2 for the second one"
            + " (NONE without one), 3 for how many bits and places for answers it has, 4 for how many ticks it takes"
            + " from its first bit on, if nobody else talks and all answer (held clocks counted, as they are now)";

    private static void messageArguments() {
        PulledWires x = new PulledWires();
        int[] beyond = {LEAST_INT, NONE, -1, MOST_INT};
        sentence("Promise 17", "`place`: a place in its line, from 0");
        due("an empty line", x.message(3, 0, 0), UNKNOWN);
        for (int n = 1; n <= 5; n++) {
            x.say(3, n, n, NONE);
            due("the last one", x.message(3, n - 1, 0), n);
            due("behind it", x.message(3, n, 0), UNKNOWN);
        }
        due("the first one", x.message(3, 0, 0), 1);
        for (int place : beyond) due("beyond", x.message(3, place, 0), UNKNOWN);
        due("of another line", x.message(2, 0, 0), UNKNOWN);
        x.takeBack(3);
        due("taken back", x.message(3, 4, 0), UNKNOWN);
        sentence("Promise 17", "`speaker`: 0 to 3");
        for (int speaker : beyond) due("beyond", x.message(speaker, 0, 0), UNKNOWN);
        due("just beyond", x.message(4, 0, 0), UNKNOWN);
        x.say(0, 7, 7, NONE);
        due("least", x.message(0, 0, 0), 7);
        sentence("Promise 17", MESSAGE_WHAT);
        for (int what : beyond) due("beyond", x.message(3, 0, what), BAD_VALUE);
        due("just beyond", x.message(3, 0, 5), BAD_VALUE);
        sentence("Promise 17", "Returns the number; UNKNOWN (speaker or place); BAD_VALUE.");
        due("no speaker, no place, a bad what", x.message(4, 9, 5), UNKNOWN);
        due("no place, a bad what", x.message(3, 4, 5), UNKNOWN);
        due("an empty line, a bad what", x.message(1, 0, -1), UNKNOWN);
    }

    private static void messageAnswers() {
        sentence("Promise 17", MESSAGE_WHAT);
        int[][] messages = {{0, 0, NONE, 18, 18}, {127, 255, 255, 27, 27}, {64, 128, 0, 27, 27}, {1, 1, 1, 27, 27}};
        PulledWires x = new PulledWires();
        for (int[] message : messages) x.say(1, message[0], message[1], message[2]);
        for (int place = 0; place < messages.length; place++) {
            for (int what = 0; what <= 4; what++) due("message", x.message(1, place, what), messages[place][what]);
        }
        // The line moves up.
        x.hear(0, 0);
        due("comes", x.run(20), 1);
        due("moved up", x.message(1, 0, 0), 127);
        due("moved up", x.message(1, 2, 1), 1);
        due("there no more", x.message(1, 3, 0), UNKNOWN);
    }

    private static void ticksOfMessages() {
        sentence("Promise 17", MESSAGE_WHAT);
        PulledWires x = hearing(5, 9);
        x.say(0, 5, 1, NONE);
        x.say(0, 5, 1, 2);
        x.say(0, 6, 1, 2);
        due("greatest, one word", x.message(0, 0, 4), 36);
        due("greatest, two words", x.message(0, 1, 4), 54);
        due("another address", x.message(0, 2, 4), 27);
        due("bits alone", x.message(0, 1, 3), 27);
        x.hold(0, 1);
        due("least held", x.message(0, 0, 4), 20);
        due("least held", x.message(0, 1, 4), 30);
        x.hold(0, 0);
        due("not held", x.message(0, 0, 4), 18);
        due("not held", x.message(0, 1, 4), 27);
        x.hold(0, 9);
        x.hear(0, NONE);
        due("nobody has the address", x.message(0, 0, 4), 18);
        x.hear(0, 5);
        x.stick(1, 9);
        due("stuck ones do not count", x.message(0, 0, 4), 36);
        x.run(9);
        x.say(1, 0, 0, NONE);
        due("nor others who talk", x.message(0, 0, 4), 36);
        x.takeBack(1);
        x.run(2);
        due("it takes what is told", x.run(35), 0);
        due("it takes what is told", x.run(1), 1);
        x.run(30);
        due("the same in its own talk", x.message(0, 0, 4), 54);
    }

    private static final String LISTENER_WHAT = "`what`: 0 for its address (NONE without one), 1 for the ticks that"
            + " it holds, 2 for those that it is still stuck, 3 for words that it took so far, 4 for the latest word"
            + " (NONE without one)";

    private static void listenerArguments() {
        PulledWires x = new PulledWires();
        int[] beyond = {LEAST_INT, NONE, -1, MOST_INT};
        sentence("Promise 18", "`listener`: 0 to 3");
        due("least", x.listener(0, 1), 0);
        due("greatest", x.listener(3, 1), 0);
        for (int listener : beyond) due("beyond", x.listener(listener, 0), UNKNOWN);
        due("just beyond", x.listener(4, 0), UNKNOWN);
        sentence("Promise 18", LISTENER_WHAT);
        for (int what : beyond) due("beyond", x.listener(3, what), BAD_VALUE);
        due("just beyond", x.listener(3, 5), BAD_VALUE);
        sentence("Promise 18", "Returns the number; UNKNOWN; BAD_VALUE.");
        due("both", x.listener(4, 5), UNKNOWN);
        due("both", x.listener(-1, -1), UNKNOWN);
    }

    private static void listenerAnswers() {
        sentence("Promise 18", LISTENER_WHAT);
        PulledWires x = new PulledWires();
        int[] first = {NONE, 0, 0, 0, NONE};
        for (int listener = 0; listener <= 3; listener++) {
            for (int what = 0; what <= 4; what++) due("at first", x.listener(listener, what), first[what]);
        }
        x.hear(3, 0);
        x.hold(3, 9);
        x.stick(3, 99);
        due("address 0 is one", x.listener(3, 0), 0);
        due("holds", x.listener(3, 1), 9);
        due("stuck", x.listener(3, 2), 99);
        x.run(1);
        due("still stuck", x.listener(3, 2), 98);
        due("none of it of another one", x.listener(2, 0), NONE);
        PulledWires y = hearing(5, 0);
        y.say(0, 5, 255, 0);
        y.run(19);
        due("no word yet", y.listener(0, 4), NONE);
        y.run(1);
        due("the first word", y.listener(0, 4), 255);
        due("one", y.listener(0, 3), 1);
        y.run(9);
        due("word 0 is one", y.listener(0, 4), 0);
        due("two", y.listener(0, 3), 2);
        y.hear(0, 6);
        due("the word stays with another address", y.listener(0, 4), 0);
        y.hear(0, NONE);
        due("the words stay without one", y.listener(0, 3), 2);
        due("without an address", y.listener(0, 0), NONE);
    }

    private static final String BIT_WHAT = "`what`: 0 for the wire (0 low, 1 high), 1 for whether it was a place for"
            + " an answer (1, otherwise 0), 2 for the clock, 3 for how many speakers lost by it";

    private static void bitArguments() {
        PulledWires x = new PulledWires();
        int[] beyond = {LEAST_INT, NONE, -1, MOST_INT};
        sentence("Promise 19", "Returns the number; BAD_VALUE (back is negative, or what); NONE if there is none.");
        for (int what = 0; what <= 3; what++) due("none yet", x.bit(0, what), NONE);
        for (int what : beyond) due("beyond", x.bit(0, what), BAD_VALUE);
        due("just beyond", x.bit(0, 4), BAD_VALUE);
        for (int back : new int[] {LEAST_INT, NONE, -1}) due("negative", x.bit(back, 0), BAD_VALUE);
        due("none, and a bad what", x.bit(MOST_INT, 4), BAD_VALUE);
        due("there is none", x.bit(MOST_INT, 3), NONE);
        x.run(2);
        due("free ticks are none", x.bit(0, 0), NONE);
        x.say(0, 64, 1, NONE);
        x.run(2);
        sentence("Promise 19", "`back`: 0 for the latest one, and so on");
        due("one", x.bit(0, 2), 4);
        due("behind it", x.bit(1, 2), NONE);
        x.run(1);
        due("the latest one", x.bit(0, 2), 5);
        due("the one ahead of it", x.bit(1, 2), 4);
        due("no more", x.bit(2, 2), NONE);
        sentence("Promise 19", BIT_WHAT);
        due("high", x.bit(1, 0), 1);
        due("low", x.bit(0, 0), 0);
        due("a bit", x.bit(0, 1), 0);
        due("nobody lost", x.bit(0, 3), 0);
        for (int what : beyond) due("beyond", x.bit(0, what), BAD_VALUE);
        due("just beyond", x.bit(0, 4), BAD_VALUE);
    }

    private static final String LATEST_64 = "Tells the latest 64 ticks of the wire, in which a bit was sent or an"
            + " answer was due.";

    private static void bitAnswers() {
        sentence("Promise 19", BIT_WHAT);
        PulledWires x = hearing(5, 2);
        x.say(0, 5, 255, 1);
        x.say(1, 5, 255, NONE);
        x.say(2, 64, 1, NONE);
        x.say(3, 9, 1, NONE);
        x.run(300);
        // 5 is 0000101; the long one ends at 35, behind three times two held ticks. Nobody answers 9, which wins twice
        // then, and 64, which talks twice behind that: 27 ticks of the first talk are on the wire, 9 of each other one.
        int first = 27 + 4 * 9 - 1;
        int[] lost = {1, 0, 0, 1, 0, 0, 0, 0, 0, 0};
        int[] clocks = {3, 4, 5, 6, 7, 8, 9, 10, 13, 14};
        int[] wires = {0, 0, 0, 0, 1, 0, 1, 0, 0, 1};
        for (int i = 0; i < 10; i++) {
            due("wire " + i, x.bit(first - i, 0), wires[i]);
            due("place " + i, x.bit(first - i, 1), i == 8 ? 1 : 0);
            due("clock " + i, x.bit(first - i, 2), clocks[i]);
            due("lost " + i, x.bit(first - i, 3), lost[i]);
        }
        due("the last answer", x.bit(first - 26, 2), 35);
        due("a place", x.bit(first - 26, 1), 1);
        due("the next talk", x.bit(first - 27, 2), 38);
        sentence("Promise 19", LATEST_64);
        PulledWires y = new PulledWires();
        y.say(0, 0, 0, NONE);
        y.run(4);
        y.stick(0, 4);
        y.run(4);
        due("in a stuck tick none is sent", y.bit(0, 2), 4);
        y.run(1);
        due("sent", y.bit(0, 2), 9);
        due("the one ahead of it", y.bit(1, 2), 4);
    }

    private static void sixtyFourTicks() {
        sentence("Promise 19", LATEST_64);
        // Nobody answers: the talk n, from 0, has nine ticks on the wire, from 11 * n + 3 to 11 * n + 11.
        PulledWires x = new PulledWires();
        x.set(1, 9);
        x.say(0, 64, 1, NONE);
        x.say(0, 64, 1, NONE);
        x.say(0, 64, 1, NONE);
        x.run(77);
        due("63: the oldest", x.bit(62, 2), 3);
        due("63: no more", x.bit(63, 2), NONE);
        x.run(3);
        due("64: the latest", x.bit(0, 2), 80);
        due("64: the oldest", x.bit(63, 2), 3);
        due("64: no more", x.bit(64, 2), NONE);
        x.run(1);
        due("65: the latest", x.bit(0, 2), 81);
        due("65: the oldest is told no more", x.bit(63, 2), 4);
        due("65: no more", x.bit(64, 2), NONE);
        x.run(84);
        // 15 talks are over: of 135 ticks the 71 oldest are told no more, the last of them the bit at 87.
        due("135: the latest", x.bit(0, 2), 165);
        due("135: an answer", x.bit(0, 1), 1);
        due("135: which did not come", x.bit(0, 0), 1);
        due("135: the oldest", x.bit(63, 2), 88);
        due("135: an answer", x.bit(63, 1), 1);
        due("135: the one behind it", x.bit(62, 2), 91);
        due("135: a bit", x.bit(62, 1), 0);
        due("135: no more", x.bit(64, 2), NONE);
        for (int back = 0; back < 63; back++) {
            due("one behind the other " + back, x.bit(back, 2), 11 * ((134 - back) / 9) + 3 + (134 - back) % 9);
        }
    }

    private static void winnersOfNoneAndAll() {
        sentence("Promise 20", "Returns a set of speakers, as bits; 0 without messages.");
        PulledWires x = new PulledWires();
        due("without messages", x.winners(), 0);
        for (int speaker = 0; speaker <= 3; speaker++) {
            PulledWires y = new PulledWires();
            y.say(speaker, 127, 255, 255);
            due("alone", y.winners(), 1 << speaker);
            y.takeBack(speaker);
            due("without messages", y.winners(), 0);
            x.say(speaker, 127, 255, 255);
            due("all the same", x.winners(), (2 << speaker) - 1);
        }
        due("all four", x.winners(), 15);
    }

    private static int winners(int[]... messages) {
        PulledWires x = new PulledWires();
        for (int speaker = 0; speaker < messages.length; speaker++) {
            int[] message = messages[speaker];
            if (message.length > 0) x.say(speaker, message[0], message[1], message.length > 2 ? message[2] : NONE);
        }
        return x.winners();
    }

    private static void winnersByTheirBits() {
        sentence("Promise 20", WINNERS);
        int[] none = {};
        int[] least = {0, 0};
        int[] greatest = {127, 255, 255};
        due("least and greatest", winners(greatest, least), 2);
        due("least and greatest", winners(none, greatest, none, least), 8);
        due("by the first bit", winners(new int[] {63, 255}, new int[] {64, 0}), 1);
        due("by the last bit of the address", winners(new int[] {7, 0}, new int[] {6, 255}), 2);
        due("by the first bit of the word", winners(new int[] {6, 128}, new int[] {6, 127}), 2);
        due("by the last bit of the word", winners(new int[] {6, 254}, new int[] {6, 255}), 1);
        due("by the first bit of the second", winners(new int[] {6, 9, 128}, new int[] {6, 9, 127}), 2);
        due("by the last bit of the second", winners(new int[] {6, 9, 8}, new int[] {6, 9, 9}), 1);
        due("the short one loses no bit up to its end", winners(new int[] {6, 9}, new int[] {6, 9, 255}), 3);
        due("nor does the long one", winners(new int[] {6, 9}, new int[] {6, 9, 0}), 3);
        due("long ones lose by one another", winners(new int[] {6, 9}, new int[] {6, 9, 1}, new int[] {6, 9, 0}), 5);
        due("a short one that lost is out", winners(new int[] {6, 10}, new int[] {6, 9, 1}, new int[] {6, 9, 0}), 4);
        due("a loser pulls no more", winners(new int[] {64, 0}, new int[] {32, 255}, new int[] {32, 254}), 4);
        int[] one = {6, 9};
        int[] two = {6, 9, 3};
        due("short ones and long ones", winners(one, one, two, two), 15);
    }

    private static void winnersOfNow() {
        sentence("Promise 20", WINNERS);
        PulledWires x = new PulledWires();
        x.say(0, 9, 1, NONE);
        x.say(0, 0, 0, NONE);
        x.say(1, 8, 1, NONE);
        due("first messages alone", x.winners(), 2);
        x.stick(0, 99);
        due("as if nobody was stuck", x.winners(), 2);
        x.run(12);
        x.hear(3, 9);
        due("answers do not matter", x.winners(), 2);
        x.run(4);
        due("a talk goes on", x.count(1), 2);
        x.say(2, 7, 1, NONE);
        due("were it started now", x.winners(), 4);
        x.run(4);
        due("who lost takes part", x.speaker(0, 3), 1);
        x.takeBack(2);
        due("by its first message", x.winners(), 2);
    }

    private static final String EMPTY_IN_ANSWER = "Returns how many, up to 1000 (0 if they are); NONE if it takes"
            + " longer.";

    private static void emptyInFromZero() {
        sentence("Promise 21", EMPTY_IN_ANSWER);
        PulledWires x = hearing(5, 0);
        due("they are empty", x.emptyIn(), 0);
        x.say(0, 5, 1, NONE);
        due("in 20", x.emptyIn(), 20);
        x.run(19);
        due("with the next tick", x.emptyIn(), 1);
        x.run(1);
        due("they are empty", x.emptyIn(), 0);
        x.set(0, 1);
        x.say(0, 5, 1, NONE);
        due("the least that a message takes", x.emptyIn(), 19);
        x.stick(2, 9);
        due("stuck ticks count", x.emptyIn(), 28);
        x.hold(0, 9);
        due("held ones too", x.emptyIn(), 46);
        x.takeBack(0);
        due("they are empty, though one is stuck", x.emptyIn(), 0);
        sentence("Promise 21", EMPTY_IN);
        PulledWires y = hearing(5, 0);
        y.say(0, 5, 1, NONE);
        y.say(3, 5, 1, 2);
        due("one talk of 27", y.emptyIn(), 29);
        y.say(3, 5, 1, NONE);
        due("all lines", y.emptyIn(), 49);
        y.say(1, 5, 2, NONE);
        due("one that loses twice", y.emptyIn(), 69);
        due("so it is", y.run(68), 3);
        due("so it is", y.run(1), 1);
        PulledWires z = atClock(99999);
        z.say(0, 5, 1, NONE);
        due("nothing of run() binds it", z.emptyIn(), 21);
    }

    private static void emptyInUpToThousand() {
        sentence("Promise 21", EMPTY_IN_ANSWER);
        // Fifteen messages, all other ones, each in a talk of its own: 20 free ticks, 27 bits and answers, 27 held.
        PulledWires x = hearing(5, 9);
        x.set(0, 20);
        for (int n = 0; n < 5; n++) {
            for (int speaker = 0; speaker <= 2; speaker++) x.say(speaker, 5, 5 * speaker + n, 0);
        }
        due("1110", x.emptyIn(), NONE);
        x.run(109);
        due("1001", x.emptyIn(), NONE);
        x.run(1);
        due("1000", x.emptyIn(), 1000);
        x.run(1);
        due("999", x.emptyIn(), 999);
        x.run(300);
        x.run(300);
        x.run(300);
        x.run(98);
        due("one is left", x.count(7), 1);
        due("1", x.emptyIn(), 1);
        due("so it is", x.run(1), 1);
        due("0", x.emptyIn(), 0);
    }

    private static void emptyInOfDropped() {
        sentence("Promise 21", EMPTY_IN);
        PulledWires x = new PulledWires();
        x.say(0, 5, 1, NONE);
        due("two failures", x.emptyIn(), 22);
        x.set(1, 1);
        due("one failure", x.emptyIn(), 11);
        x.set(1, 9);
        due("nine failures", x.emptyIn(), 99);
        for (int n = 0; n < 4; n++) x.say(0, 5, 1, NONE);
        due("45 failures", x.emptyIn(), 495);
        x.set(0, 20);
        due("1305", x.emptyIn(), NONE);
    }

    private static void ifRunArguments() {
        PulledWires x = hearing(5, 0);
        int[] beyond = {LEAST_INT, NONE, -1, MOST_INT};
        sentence("Promise 22", "`speaker`: 0 to 3");
        due("least", x.ifRun(0, 300), 0);
        due("greatest", x.ifRun(3, 300), 0);
        for (int speaker : beyond) due("beyond", x.ifRun(speaker, 1), UNKNOWN);
        due("just beyond", x.ifRun(4, 1), UNKNOWN);
        sentence("Promise 22", "`ticks`: 1 to 300");
        due("least", x.ifRun(0, 1), 0);
        for (int ticks : beyond) due("beyond", x.ifRun(0, ticks), BAD_VALUE);
        due("just beyond", x.ifRun(0, 0), BAD_VALUE);
        due("just beyond", x.ifRun(0, 301), BAD_VALUE);
        sentence("Promise 22", "Returns how many; UNKNOWN; BAD_VALUE.");
        due("both", x.ifRun(4, 0), UNKNOWN);
        due("both", x.ifRun(-1, 301), UNKNOWN);
    }

    private static void ifRunAnswers() {
        sentence("Promise 22", IF_RUN);
        // Fifteen messages, all other ones, each in a talk of 20 ticks: those of speaker 0 first, then 1, then 2.
        PulledWires x = hearing(5, 0);
        for (int n = 0; n < 5; n++) {
            for (int speaker = 0; speaker <= 2; speaker++) x.say(speaker, 5, 5 * speaker + n, NONE);
        }
        due("not yet", x.ifRun(0, 19), 0);
        due("with the last tick", x.ifRun(0, 20), 1);
        due("all but one", x.ifRun(0, 99), 4);
        due("all", x.ifRun(0, 100), 5);
        due("no more", x.ifRun(0, 300), 5);
        due("not yet", x.ifRun(1, 119), 0);
        due("with the last tick", x.ifRun(1, 120), 1);
        due("all but one", x.ifRun(2, 299), 4);
        due("with the 300th tick", x.ifRun(2, 300), 5);
        due("an empty line", x.ifRun(3, 300), 0);
        due("in one tick", x.ifRun(0, 1), 0);
        x.run(19);
        due("in one tick", x.ifRun(0, 1), 1);
        x.run(1);
        due("those that came do not count", x.ifRun(0, 300), 4);
        due("nothing is done", x.count(7), 14);
        due("nothing is done", x.count(0), 20);
        PulledWires y = new PulledWires();
        y.say(0, 5, 1, NONE);
        due("dropped ones do not come", y.ifRun(0, 300), 0);
        y.hear(0, 5);
        y.stick(3, 9);
        due("stuck ticks", y.ifRun(0, 28), 0);
        due("stuck ticks", y.ifRun(0, 29), 1);
        PulledWires z = atClock(99999);
        z.hear(0, 5);
        z.say(0, 5, 1, NONE);
        due("nothing of run() binds it", z.ifRun(0, 19), 1);
    }

    private static void countArguments() {
        sentence("Promise 23", "Returns the number; BAD_VALUE.");
        PulledWires x = new PulledWires();
        for (int what : new int[] {LEAST_INT, NONE, -1, 16, MOST_INT}) due("beyond", x.count(what), BAD_VALUE);
        int[] counts = {0, 0, 0, 0, 0, 0, 0, 0, 0, 0, 0, 2, 2, 10, 0, 0};
        for (int what = 0; what <= 15; what++) due("count " + what, x.count(what), counts[what]);
    }

    private static final String COUNT = "`what`: 0 for the clock, 1 for speakers in the talk, 2 for what the next"
            + " tick is: 0 the wires are free, 1 a bit, 2 a place for an answer, 3 the clock is held, 4 a listener"
            + " is stuck, 3 for ticks for which the clock is still held, 4 for ticks for which the wires have been"
            + " free, 5 for stuck ticks one behind the other, 6 for how many bits and answers of the talk are over,"
            + " 7 for messages in all lines, 8 for those that came so far, 9 for talks so far, 10 for how often"
            + " listeners were shaken free so far, 11 to 13 for the settings 0 to 2, 14 for the states in the"
            + " history, 15 for the length of the text";

    private static void countNextTicks() {
        sentence("Promise 23", COUNT);
        PulledWires x = hearing(5, 9);
        x.say(0, 5, 1, NONE);
        x.stick(1, 1);
        due("stuck", x.count(2), 4);
        x.run(1);
        due("free", x.count(2), 0);
        x.run(1);
        due("free", x.count(2), 0);
        x.run(1);
        due("a bit", x.count(2), 1);
        x.run(7);
        due("the eighth bit", x.count(2), 1);
        due("not held", x.count(3), 0);
        x.run(1);
        due("held", x.count(2), 3);
        due("greatest", x.count(3), 9);
        x.stick(1, 1);
        due("stuck while held", x.count(2), 4);
        due("still held", x.count(3), 9);
        x.run(9);
        due("held: the last tick", x.count(2), 3);
        due("least", x.count(3), 1);
        x.run(1);
        due("an answer", x.count(2), 2);
        x.run(1);
        due("a bit", x.count(2), 1);
        x.run(8 + 9);
        due("an answer", x.count(2), 2);
        x.run(1);
        due("free", x.count(2), 0);
    }

    private static void countTalks() {
        sentence("Promise 23", COUNT);
        PulledWires x = hearing(5, 0);
        x.say(0, 5, 1, 2);
        x.say(1, 5, 1, NONE);
        x.say(2, 9, 1, NONE);
        x.say(3, 64, 1, NONE);
        x.run(1);
        due("free ticks", x.count(4), 1);
        due("no talk yet", x.count(9), 0);
        x.run(1);
        due("four in the talk", x.count(1), 4);
        due("a talk", x.count(9), 1);
        for (int over = 0; over < 27; over++) {
            due("over", x.count(6), over);
            due("in the talk", x.count(1), over == 0 ? 4 : over < 4 ? 3 : over < 18 ? 2 : 1);
            x.run(1);
        }
        due("no talk", x.count(1), 0);
        due("nothing of a talk is over", x.count(6), 0);
        due("came", x.count(8), 2);
        due("in all lines", x.count(7), 2);
        due("one talk so far", x.count(9), 1);
        x.run(2);
        due("two", x.count(9), 2);
    }

    private static void countAccounts() {
        sentence("Promise 23", COUNT);
        PulledWires x = new PulledWires();
        x.set(0, 20);
        x.set(1, 9);
        x.set(2, 99);
        due("setting 0", x.count(11), 20);
        due("setting 1", x.count(12), 9);
        due("setting 2", x.count(13), 99);
        x.set(0, 1);
        x.set(1, 1);
        x.set(2, 1);
        due("setting 0", x.count(11), 1);
        due("setting 1", x.count(12), 1);
        due("setting 2", x.count(13), 1);
        for (int shaken = 1; shaken <= 3; shaken++) {
            x.stick(0, 99);
            x.stick(1, 99);
            x.run(1);
            due("all at once are once", x.count(10), shaken);
            due("not one behind the other then", x.count(5), 0);
        }
        PulledWires y = new PulledWires();
        y.set(2, 99);
        y.stick(0, 98);
        for (int stuck = 1; stuck <= 98; stuck++) {
            y.run(1);
            due("one behind the other", y.count(5), stuck);
        }
        due("not shaken", y.count(10), 0);
        PulledWires z = hearing(5, 0);
        for (int n = 1; n <= 20; n++) {
            z.say(n % 4, 5, n / 5, NONE);
            due("in all lines", z.count(7), n);
        }
        due("came", z.run(300), 20);
        due("came", z.count(8), 20);
        due("in all lines", z.count(7), 0);
        due("clock", z.count(0), 300);
    }

    private static void countHistoryAndText() {
        sentence("Promise 23", COUNT);
        PulledWires x = new PulledWires();
        int[] states = {1, 2, 3, 4, 4, 4};
        for (int n = 0; n < states.length; n++) {
            x.hold(0, n + 1);
            due("states", x.count(14), states[n]);
        }
        x.undo();
        due("states", x.count(14), 3);
        for (int n = 1; n <= 80; n++) {
            x.type('x');
            due("length", x.count(15), n);
        }
        x.type('x');
        due("length", x.count(15), 80);
        x.clearText();
        due("length", x.count(15), 0);
    }

    // ---- the document

    /** What is asked for here is asked by the words of the document, and nothing in these is left out. */
    private static void eachSentenceIsNamed() throws IOException {
        if (!Files.exists(DOCUMENT)) {
            System.out.println("BoundaryTests: no " + DOCUMENT + ", so its sentences were not looked for");
            return;
        }
        named = DOCUMENT.toString();
        Map<String, String> sections = sectionsOfTheDocument();
        due("sections of the document", String.join(", ", sections.keySet()), String.join(", ", sentences.keySet()));
        for (String section : sections.keySet()) {
            String left = sections.get(section);
            List<String> words = new ArrayList<>(sentences.getOrDefault(section, Set.of()));
            words.sort((a, b) -> b.length() - a.length());
            for (String sentence : words) {
                due(section + " says " + sentence, sections.get(section).contains(sentence) ? 1 : 0, 1);
                left = left.replace(sentence, "");
            }
            due("not named of " + section, left.replaceAll("[^A-Za-z]+", " ").strip(), "");
        }
    }

    /** What is promised of an object, without headings, the calls' first lines and what orders the calls. */
    private static Map<String, String> sectionsOfTheDocument() throws IOException {
        Map<String, String> sections = new TreeMap<>();
        for (String section : Files.readString(DOCUMENT).split("(?m)^## ")) {
            String title = section.lines().findFirst().orElse("").replaceAll(":.*", "");
            if (title.equals("What it is") || title.equals("Terms") || title.startsWith("Promise ")) {
                String text = section.substring(section.indexOf('\n') + 1);
                text = text.replaceAll("(?m)^[A-Z, ]+$|^Two wires .*$|^Ahead of the calls .*$|^`[^`]*\\)`: ", "");
                sections.put(title, text);
            }
        }
        return sections;
    }
}
