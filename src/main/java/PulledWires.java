/** Two wires shared by many who may all speak first; ../shared/DOC.md tells what each call promises. */
public final class PulledWires {
    public static final int UNKNOWN = -1;
    public static final int BAD_VALUE = -2;
    public static final int FULL = -3;
    public static final int NOT_POSSIBLE = -4;
    public static final int NONE = -5;

    private static final int SPEAKERS = 4;
    private static final int LISTENERS = 4;
    private static final int LINE_ROOM = 5;
    private static final int MOST_ADDRESS = 127;
    private static final int MOST_WORD = 255;
    private static final int MOST_HOLD = 9;
    private static final int MOST_STUCK = 99;
    private static final int MOST_TICKS = 300;
    private static final int MOST_CLOCK = 99999;
    private static final int MOST_LOOK_AHEAD = 1000;
    private static final int HISTORY_ROOM = 4;
    private static final int FAULT_BASE = -100;

    // A message is sent in parts of 8 bits and a place for an answer: the address with its 0, then each word.
    private static final int PART_BITS = 8;
    private static final int PART_LENGTH = 9;
    private static final int MOST_PARTS = 3;

    private static final int SETTINGS = 3;
    private static final int FREE_TICKS = 0;
    private static final int MOST_FAILURES = 1;
    private static final int STUCK_TICKS = 2;
    private static final int LEAST_SETTING = 1;
    private static final int[] MOST_SETTING = {20, 9, 99};

    private static final int TICK_FREE = 0;
    private static final int TICK_BIT = 1;
    private static final int TICK_PLACE = 2;
    private static final int TICK_HELD = 3;
    private static final int TICK_STUCK = 4;

    private static final int NO_ORDER = -1;
    private static final int SAY = 0;
    private static final int HEAR = 1;
    private static final int HOLD = 2;
    private static final int STICK = 3;
    private static final int RUN = 4;
    private static final int ORDER_KINDS = 5;

    private final State now = new State();
    private final State snapshot = new State();
    private final State[] history = new State[HISTORY_ROOM];
    private final OrderText text = new OrderText();
    // The state ahead of an act, until it is recorded; between acts a place to look ahead in.
    private State spare = new State();
    private int historySize;
    private boolean hasSnapshot;
    private int stoppedOrder = NONE;
    private int stoppedError = NONE;

    public PulledWires() {
        for (int i = 0; i < history.length; i++) {
            history[i] = new State();
        }
    }

    // ---- speakers, listeners

    public int say(int speaker, int address, int word, int second) {
        spare.copyFrom(now);
        return recorded(now.addMessage(speaker, address, word, second));
    }

    public int takeBack(int speaker) {
        spare.copyFrom(now);
        return recorded(now.dropLast(speaker));
    }

    public int hear(int listener, int address) {
        spare.copyFrom(now);
        return recorded(now.giveAddress(listener, address));
    }

    public int hold(int listener, int ticks) {
        spare.copyFrom(now);
        return recorded(now.giveHold(listener, ticks));
    }

    public int stick(int listener, int ticks) {
        spare.copyFrom(now);
        return recorded(now.makeStuck(listener, ticks));
    }

    public int set(int which, int value) {
        spare.copyFrom(now);
        return recorded(now.changeSetting(which, value));
    }

    public int run(int ticks) {
        spare.copyFrom(now);
        return recorded(now.passTicks(ticks));
    }

    // ---- texts

    public int type(char character) {
        return text.append(character);
    }

    public int clearText() {
        return text.empty();
    }

    public int perform() {
        int orders = text.countOrders();
        if (orders < 0) {
            return orders;
        }
        spare.copyFrom(now);
        text.rewind();
        for (int order = 0; order < orders; order++) {
            text.readOrder();
            text.skipSeparator();
            int answer = carryOutOrder();
            if (answer < 0 && answer != NONE) {
                stoppedOrder = order;
                stoppedError = answer;
                now.copyFrom(spare);
                return NOT_POSSIBLE;
            }
        }
        return recorded(orders);
    }

    public int stopped(int what) {
        switch (what) {
            case 0: return stoppedOrder;
            case 1: return stoppedError;
            default: return BAD_VALUE;
        }
    }

    // ---- history

    public int undo() {
        if (historySize < 1 || historySize > history.length) {
            return NONE;
        }
        historySize--;
        now.copyFrom(history[historySize]);
        return historySize;
    }

    public int keep() {
        snapshot.copyFrom(now);
        hasSnapshot = true;
        return now.clock;
    }

    public int restore() {
        if (!hasSnapshot) {
            return NONE;
        }
        spare.copyFrom(now);
        now.copyFrom(snapshot);
        return recorded(now.clock);
    }

    // ---- what is told

    public int speaker(int speaker, int what) {
        Speaker asked = now.speakerAt(speaker);
        if (asked == null) {
            return UNKNOWN;
        }
        switch (what) {
            case 0: return asked.size;
            case 1: return asked.talking ? 1 : 0;
            case 2: return asked.came;
            case 3: return asked.lost;
            case 4: return asked.failed;
            case 5: return asked.dropped;
            case 6: return asked.failuresOfFirst;
            default: return BAD_VALUE;
        }
    }

    public int message(int speaker, int place, int what) {
        Speaker asked = now.speakerAt(speaker);
        if (asked == null || !isIndex(place, asked.size)) {
            return UNKNOWN;
        }
        switch (what) {
            case 0: return asked.part(place, 0) >> 1;
            case 1: return asked.part(place, 1);
            case 2: return asked.part(place, 2);
            case 3: return asked.partsAt(place) * PART_LENGTH;
            case 4: return asked.partsAt(place) * (PART_LENGTH + now.holdFor(asked.part(place, 0) >> 1));
            default: return BAD_VALUE;
        }
    }

    public int listener(int listener, int what) {
        Listener asked = now.listenerAt(listener);
        if (asked == null) {
            return UNKNOWN;
        }
        switch (what) {
            case 0: return asked.address;
            case 1: return asked.hold;
            case 2: return asked.stuck;
            case 3: return asked.wordsTaken;
            case 4: return asked.latestWord;
            default: return BAD_VALUE;
        }
    }

    public int bit(int back, int what) {
        return now.log.tell(back, what);
    }

    public int winners() {
        int racing = now.speakersWithMessage();
        int won = 0;
        for (int over = 0; over < MOST_PARTS * PART_LENGTH; over++) {
            if (isPlace(over)) {
                int ending = now.endingAt(racing, over);
                won |= ending;
                racing &= ~ending;
            } else {
                int zeros = now.sendersOf(racing, over, 0);
                racing = zeros == 0 ? racing : zeros;
            }
        }
        return won;
    }

    public int emptyIn() {
        spare.copyFrom(now);
        for (int ticks = 0; ticks <= MOST_LOOK_AHEAD; ticks++) {
            if (spare.messagesInLines() == 0) {
                return ticks;
            }
            spare.tick();
        }
        return NONE;
    }

    public int ifRun(int speaker, int ticks) {
        if (!isIndex(speaker, SPEAKERS)) {
            return UNKNOWN;
        }
        if (ticks < 1 || ticks > MOST_TICKS) {
            return BAD_VALUE;
        }
        spare.copyFrom(now);
        int before = spare.cameFrom(speaker);
        for (int i = 0; i < ticks; i++) {
            spare.tick();
        }
        return spare.cameFrom(speaker) - before;
    }

    public int count(int what) {
        switch (what) {
            case 0: return now.clock;
            case 1: return Integer.bitCount(now.talkers());
            case 2: return now.nextTick();
            case 3: return now.held;
            case 4: return now.free;
            case 5: return now.stuckInRow;
            case 6: return now.over;
            case 7: return now.messagesInLines();
            case 8: return now.messagesThatCame();
            case 9: return now.talks;
            case 10: return now.shakes;
            case 11: return now.setting(FREE_TICKS);
            case 12: return now.setting(MOST_FAILURES);
            case 13: return now.setting(STUCK_TICKS);
            case 14: return historySize;
            case 15: return text.length;
            default: return BAD_VALUE;
        }
    }

    // ---- helpers

    /** Puts the spare state into the history if the answer of the act is no error and not NONE. */
    private int recorded(int answer) {
        if (answer < 0) {
            return answer;
        }
        State latest = spare;
        if (isIndex(historySize, history.length)) {
            spare = history[historySize];
            history[historySize] = latest;
            historySize++;
        } else {
            // The oldest state is dropped; its object is used again.
            spare = history[0];
            for (int i = 1; i < history.length; i++) {
                history[i - 1] = history[i];
            }
            history[history.length - 1] = latest;
        }
        return answer;
    }

    private int carryOutOrder() {
        int first = text.number(0);
        int second = text.number(1);
        switch (text.kind) {
            case SAY: return now.addMessage(first, second, text.number(2), text.number(3));
            case HEAR: return now.giveAddress(first, second);
            case HOLD: return now.giveHold(first, second);
            case STICK: return now.makeStuck(first, second);
            case RUN: return now.passTicks(first);
            default: return NOT_POSSIBLE;
        }
    }

    private static boolean isIndex(int index, int size) {
        return index >= 0 && index < size;
    }

    private static boolean isPlace(int over) {
        return over % PART_LENGTH == PART_BITS;
    }

    /** A speaker with its line of messages and its accounts. */
    private static final class Speaker {
        // The parts of each message of the line, one message behind the other; a second word may be NONE.
        final int[] parts = new int[LINE_ROOM * MOST_PARTS];
        int size;
        boolean talking;
        int came;
        int lost;
        int failed;
        int dropped;
        int failuresOfFirst;

        void copyFrom(Speaker other) {
            System.arraycopy(other.parts, 0, parts, 0, LINE_ROOM * MOST_PARTS);
            size = other.size;
            talking = other.talking;
            came = other.came;
            lost = other.lost;
            failed = other.failed;
            dropped = other.dropped;
            failuresOfFirst = other.failuresOfFirst;
        }

        void append(int address, int word, int second) {
            if (isIndex(size, LINE_ROOM)) {
                parts[size * MOST_PARTS] = address << 1;
                parts[size * MOST_PARTS + 1] = word;
                parts[size * MOST_PARTS + 2] = second;
                size++;
            }
        }

        void removeLast() {
            if (size > 0) {
                size--;
            }
            if (size == 0) {
                failuresOfFirst = 0;
            }
        }

        private void removeFirst() {
            System.arraycopy(parts, MOST_PARTS, parts, 0, (LINE_ROOM - 1) * MOST_PARTS);
            if (size > 0) {
                size--;
            }
            failuresOfFirst = 0;
        }

        void lose() {
            talking = false;
            lost++;
        }

        void bringMessage() {
            talking = false;
            came++;
            removeFirst();
        }

        void failMessage(int mostFailures) {
            talking = false;
            failed++;
            failuresOfFirst++;
            if (failuresOfFirst >= mostFailures) {
                dropped++;
                removeFirst();
            }
        }

        /** The 8 bits of a part of a message: its address with the 0 behind it, or a word. */
        int part(int place, int which) {
            boolean isThere = place >= 0 && place < LINE_ROOM && which >= 0 && which < MOST_PARTS;
            return isThere ? parts[place * MOST_PARTS + which] : NONE;
        }

        int partsAt(int place) {
            return part(place, 2) == NONE ? 2 : 3;
        }
    }

    /** A listener; the address and the latest word are NONE without one. */
    private static final class Listener {
        int address = NONE;
        int hold;
        int stuck;
        int wordsTaken;
        int latestWord = NONE;

        void copyFrom(Listener other) {
            address = other.address;
            hold = other.hold;
            stuck = other.stuck;
            wordsTaken = other.wordsTaken;
            latestWord = other.latestWord;
        }

        void takeWord(int word) {
            wordsTaken++;
            latestWord = word;
        }
    }

    /** The latest ticks of the wire, in a ring of rows: the wire, whether a place, the clock, who lost. */
    private static final class BitLog {
        private static final int ROOM = 64;
        private static final int ROW = 4;
        final int[] cells = new int[ROOM * ROW];
        int next;
        int size;

        void copyFrom(BitLog other) {
            System.arraycopy(other.cells, 0, cells, 0, ROOM * ROW);
            next = other.next;
            size = other.size;
        }

        void add(int wire, int place, int clock, int losers) {
            int row = Math.floorMod(next, ROOM) * ROW;
            cells[row] = wire;
            cells[row + 1] = place;
            cells[row + 2] = clock;
            cells[row + 3] = losers;
            next = Math.floorMod(next + 1, ROOM);
            size = Math.min(size + 1, ROOM);
        }

        int tell(int back, int what) {
            if (back < 0 || !isIndex(what, ROW)) {
                return BAD_VALUE;
            }
            if (back >= size) {
                return NONE;
            }
            return cells[Math.floorMod(next - 1 - back, ROOM) * ROW + what];
        }
    }

    /** What the history and the snapshot keep: all but the text, these two and the latest stop. */
    private static final class State {
        final Speaker[] speakers = new Speaker[SPEAKERS];
        final Listener[] listeners = new Listener[LISTENERS];
        final int[] settings = {2, 2, 10};
        final BitLog log = new BitLog();
        int clock;
        int over;
        int held;
        int free;
        int stuckInRow;
        int talks;
        int shakes;

        State() {
            for (int i = 0; i < speakers.length; i++) {
                speakers[i] = new Speaker();
            }
            for (int i = 0; i < listeners.length; i++) {
                listeners[i] = new Listener();
            }
        }

        void copyFrom(State other) {
            for (int i = 0; i < SPEAKERS; i++) {
                speakers[i].copyFrom(other.speakers[i]);
            }
            for (int i = 0; i < LISTENERS; i++) {
                listeners[i].copyFrom(other.listeners[i]);
            }
            System.arraycopy(other.settings, 0, settings, 0, SETTINGS);
            log.copyFrom(other.log);
            clock = other.clock;
            over = other.over;
            held = other.held;
            free = other.free;
            stuckInRow = other.stuckInRow;
            talks = other.talks;
            shakes = other.shakes;
        }

        // -- acts: each answers as its call does, and changes nothing if the answer is an error or NONE

        int addMessage(int speaker, int address, int word, int second) {
            Speaker told = speakerAt(speaker);
            if (told == null) {
                return UNKNOWN;
            }
            if (!isIndex(address, MOST_ADDRESS + 1) || !isIndex(word, MOST_WORD + 1)) {
                return BAD_VALUE;
            }
            if (second != NONE && !isIndex(second, MOST_WORD + 1)) {
                return BAD_VALUE;
            }
            if (told.size >= LINE_ROOM) {
                return FULL;
            }
            told.append(address, word, second);
            return told.size;
        }

        int dropLast(int speaker) {
            Speaker told = speakerAt(speaker);
            if (told == null) {
                return UNKNOWN;
            }
            if (told.size == 1 && told.talking) {
                return NOT_POSSIBLE;
            }
            if (told.size == 0) {
                return NONE;
            }
            told.removeLast();
            return told.size;
        }

        int giveAddress(int listener, int address) {
            Listener told = listenerAt(listener);
            if (told == null) {
                return UNKNOWN;
            }
            if (address != NONE && !isIndex(address, MOST_ADDRESS + 1)) {
                return BAD_VALUE;
            }
            Listener having = listenerWith(address);
            if (having != null && having != told) {
                return NOT_POSSIBLE;
            }
            if (told.address == address) {
                return NONE;
            }
            told.address = address;
            return listenersWithAddress();
        }

        int giveHold(int listener, int ticks) {
            Listener told = listenerAt(listener);
            if (told == null) {
                return UNKNOWN;
            }
            if (ticks < 0 || ticks > MOST_HOLD) {
                return BAD_VALUE;
            }
            if (told.hold == ticks) {
                return NONE;
            }
            int previous = told.hold;
            told.hold = ticks;
            return previous;
        }

        int makeStuck(int listener, int ticks) {
            Listener told = listenerAt(listener);
            if (told == null) {
                return UNKNOWN;
            }
            if (ticks < 1 || ticks > MOST_STUCK) {
                return BAD_VALUE;
            }
            told.stuck = ticks;
            return stuckListeners();
        }

        int changeSetting(int which, int value) {
            if (!isIndex(which, SETTINGS)) {
                return UNKNOWN;
            }
            if (value < LEAST_SETTING || value > MOST_SETTING[which]) {
                return BAD_VALUE;
            }
            if (settings[which] == value) {
                return NONE;
            }
            int previous = settings[which];
            settings[which] = value;
            return previous;
        }

        int passTicks(int ticks) {
            if (ticks < 1 || ticks > MOST_TICKS) {
                return BAD_VALUE;
            }
            if (ticks > MOST_CLOCK - clock) {
                return FULL;
            }
            int before = messagesThatCame();
            for (int i = 0; i < ticks; i++) {
                tick();
            }
            return messagesThatCame() - before;
        }

        // -- ticks

        int nextTick() {
            if (stuckListeners() > 0) {
                return TICK_STUCK;
            }
            if (held > 0) {
                return TICK_HELD;
            }
            if (talkers() == 0) {
                return TICK_FREE;
            }
            return isPlace(over) ? TICK_PLACE : TICK_BIT;
        }

        void tick() {
            int kind = nextTick();
            clock++;
            if (kind != TICK_STUCK) {
                stuckInRow = 0;
            }
            switch (kind) {
                case TICK_STUCK: stuckTick(); break;
                case TICK_HELD: held--; break;
                case TICK_BIT: sendBit(); break;
                case TICK_PLACE: awaitAnswer(); break;
                default: freeTick(); break;
            }
        }

        private void stuckTick() {
            free = 0;
            if (held == 0 && !isPlace(over)) {
                lose(sendersOf(talkers(), over, 1));
            }
            endTalkIfEmpty();
            stuckInRow++;
            boolean shaken = stuckInRow >= setting(STUCK_TICKS);
            for (Listener listener : listeners) {
                listener.stuck = shaken ? 0 : Math.max(listener.stuck - 1, 0);
            }
            if (shaken) {
                stuckInRow = 0;
                shakes++;
            }
        }

        private void sendBit() {
            int talking = talkers();
            boolean low = sendersOf(talking, over, 0) != 0;
            int losers = low ? sendersOf(talking, over, 1) : 0;
            lose(losers);
            log.add(low ? 0 : 1, 0, clock, Integer.bitCount(losers));
            over++;
            if (isPlace(over)) {
                held = holdFor(partOfTalk(0) >> 1);
            }
        }

        private void awaitAnswer() {
            Listener answering = listenerWith(partOfTalk(0) >> 1);
            log.add(answering == null ? 1 : 0, 1, clock, 0);
            if (answering != null && over > PART_BITS) {
                answering.takeWord(partOfTalk(over / PART_LENGTH));
            }
            for (Speaker speaker : speakers) {
                if (speaker.talking && answering == null) {
                    speaker.failMessage(setting(MOST_FAILURES));
                } else if (speaker.talking && endsAt(speaker, over)) {
                    speaker.bringMessage();
                }
            }
            over++;
            endTalkIfEmpty();
        }

        private void freeTick() {
            free++;
            int starting = speakersWithMessage();
            if (free < setting(FREE_TICKS) || starting == 0) {
                return;
            }
            for (int i = 0; i < speakers.length; i++) {
                speakers[i].talking = isIn(starting, i);
            }
            free = 0;
            talks++;
        }

        private void lose(int losers) {
            for (int i = 0; i < speakers.length; i++) {
                if (isIn(losers, i)) {
                    speakers[i].lose();
                }
            }
        }

        private void endTalkIfEmpty() {
            if (talkers() == 0) {
                over = 0;
            }
        }

        // -- what is told; sets of speakers are bits

        Speaker speakerAt(int index) {
            return isIndex(index, speakers.length) ? speakers[index] : null;
        }

        Listener listenerAt(int index) {
            return isIndex(index, listeners.length) ? listeners[index] : null;
        }

        /** The listener with an address, or null; nobody has the address NONE. */
        private Listener listenerWith(int address) {
            for (Listener listener : listeners) {
                if (address != NONE && listener.address == address) {
                    return listener;
                }
            }
            return null;
        }

        private int listenersWithAddress() {
            int found = 0;
            for (Listener listener : listeners) {
                found += listener.address == NONE ? 0 : 1;
            }
            return found;
        }

        private int stuckListeners() {
            int found = 0;
            for (Listener listener : listeners) {
                found += listener.stuck > 0 ? 1 : 0;
            }
            return found;
        }

        int holdFor(int address) {
            Listener listener = listenerWith(address);
            return listener == null ? 0 : listener.hold;
        }

        int setting(int which) {
            return isIndex(which, settings.length) ? settings[which] : UNKNOWN;
        }

        int messagesInLines() {
            int found = 0;
            for (Speaker speaker : speakers) {
                found += speaker.size;
            }
            return found;
        }

        int messagesThatCame() {
            int found = 0;
            for (Speaker speaker : speakers) {
                found += speaker.came;
            }
            return found;
        }

        int cameFrom(int index) {
            return isIndex(index, speakers.length) ? speakers[index].came : 0;
        }

        private static boolean isIn(int set, int index) {
            return (set >> index & 1) == 1;
        }

        int talkers() {
            int found = 0;
            for (int i = 0; i < speakers.length; i++) {
                found |= speakers[i].talking ? 1 << i : 0;
            }
            return found;
        }

        int speakersWithMessage() {
            int found = 0;
            for (int i = 0; i < speakers.length; i++) {
                found |= speakers[i].size > 0 ? 1 << i : 0;
            }
            return found;
        }

        /** Those of a set whose first message has this bit behind as many bits and answers. */
        int sendersOf(int set, int over, int bit) {
            int part = over / PART_LENGTH;
            int shift = PART_BITS - 1 - over % PART_LENGTH;
            int found = 0;
            for (int i = 0; i < speakers.length; i++) {
                int sent = speakers[i].part(0, part) >> shift & 1;
                found |= isIn(set, i) && sent == bit ? 1 << i : 0;
            }
            return found;
        }

        private static boolean endsAt(Speaker speaker, int over) {
            return speaker.partsAt(0) * PART_LENGTH == over + 1;
        }

        /** Those of a set whose first message ends with this place for an answer. */
        int endingAt(int set, int over) {
            int found = 0;
            for (int i = 0; i < speakers.length; i++) {
                found |= isIn(set, i) && endsAt(speakers[i], over) ? 1 << i : 0;
            }
            return found;
        }

        /** A part of the message of the talk: at its end all who are in the talk have sent the same. */
        private int partOfTalk(int part) {
            for (Speaker speaker : speakers) {
                if (speaker.talking) {
                    return speaker.part(0, part);
                }
            }
            return NONE;
        }
    }

    /** The text that is typed, and how it is read, order by order. */
    private static final class OrderText {
        private static final int ROOM = 80;
        private static final int NUMBERS = 4;
        private static final int MOST_DIGITS = 3;
        final char[] characters = new char[ROOM];
        final int[] numbers = new int[NUMBERS];
        int length;
        int at;
        int kind = NO_ORDER;

        int append(char character) {
            if (!isIndex(length, ROOM)) {
                return FULL;
            }
            characters[length] = character;
            length++;
            return length;
        }

        int empty() {
            int previous = length;
            length = 0;
            return previous;
        }

        void rewind() {
            at = 0;
        }

        int number(int which) {
            return isIndex(which, NUMBERS) ? numbers[which] : NONE;
        }

        /** How many orders there are, or -100 minus the fault. */
        int countOrders() {
            rewind();
            for (int orders = 1; orders <= ROOM; orders++) {
                if (!readOrder()) {
                    break;
                }
                if (at == length) {
                    return orders;
                }
                if (!skipSeparator()) {
                    break;
                }
            }
            return FAULT_BASE - at;
        }

        /** Reads the order that begins here; without success the place is left at the fault. */
        boolean readOrder() {
            return readName() && readNumbers();
        }

        boolean skipSeparator() {
            return skip(';');
        }

        private boolean readName() {
            int most = 0;
            kind = NO_ORDER;
            for (int i = 0; i < ORDER_KINDS; i++) {
                String name = nameOf(i);
                int same = sameCharacters(name);
                most = Math.max(most, same);
                if (same == name.length()) {
                    kind = i;
                }
            }
            at += most;
            return kind != NO_ORDER;
        }

        private int sameCharacters(String name) {
            int same = 0;
            while (same < name.length() && isCharacter(at + same, name.charAt(same))) {
                same++;
            }
            return same;
        }

        private boolean readNumbers() {
            int needed = kind == SAY ? 3 : kind == RUN ? 1 : 2;
            for (int i = 0; i < NUMBERS; i++) {
                numbers[i] = NONE;
            }
            for (int i = 0; i < needed; i++) {
                if (!readNumber(i)) {
                    return false;
                }
            }
            boolean hasSecondWord = kind == SAY && isCharacter(at, ' ');
            return !hasSecondWord || readNumber(needed);
        }

        /** Reads a blank and a number; a digit too many is left for what comes next, to which it is a fault. */
        private boolean readNumber(int which) {
            if (!skip(' ')) {
                return false;
            }
            int most = mostOf(which);
            int value = digitHere();
            if (value < leastOf(which) || value > most) {
                return false;
            }
            at++;
            for (int digits = 1; digits < MOST_DIGITS && value > 0; digits++) {
                int digit = digitHere();
                if (digit < 0 || value * 10 + digit > most) {
                    break;
                }
                value = value * 10 + digit;
                at++;
            }
            if (isIndex(which, NUMBERS)) {
                numbers[which] = value;
            }
            return true;
        }

        private boolean skip(char character) {
            if (!isCharacter(at, character)) {
                return false;
            }
            at++;
            return true;
        }

        private boolean isCharacter(int place, char character) {
            return isIndex(place, Math.min(length, ROOM)) && characters[place] == character;
        }

        /** The digit at the place, or -1. */
        private int digitHere() {
            if (!isIndex(at, Math.min(length, ROOM)) || characters[at] < '0' || characters[at] > '9') {
                return -1;
            }
            return characters[at] - '0';
        }

        private static String nameOf(int kind) {
            switch (kind) {
                case SAY: return "say";
                case HEAR: return "hear";
                case HOLD: return "hold";
                case STICK: return "stick";
                default: return "run";
            }
        }

        private int leastOf(int which) {
            boolean isStuckTicks = kind == STICK && which == 1;
            return isStuckTicks || kind == RUN ? 1 : 0;
        }

        private int mostOf(int which) {
            if (kind == RUN) {
                return 99;
            }
            if (which == 0) {
                return kind == SAY ? SPEAKERS - 1 : LISTENERS - 1;
            }
            switch (kind) {
                case SAY: return which == 1 ? MOST_ADDRESS : MOST_WORD;
                case HEAR: return MOST_ADDRESS;
                case HOLD: return MOST_HOLD;
                default: return MOST_STUCK;
            }
        }
    }
}
