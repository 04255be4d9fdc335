import java.util.ArrayDeque;
import java.util.ArrayList;
import java.util.List;
import java.util.Random;
import java.util.regex.Matcher;
import java.util.regex.Pattern;

// Random runs of 512 calls, each answer compared with a second program that was written apart from the
// first, in another way: messages as texts of bits, states that are copied whole, orders by a pattern.
public final class ModelTests {
    private static final int RUNS = 2500;
    private static final int CALLS = 512;
    private static final int NONE = -5;

    private static int wrong = 0;
    private static final StringBuilder trace = new StringBuilder();

    private record Message(int address, int word, int second) {
        String bits() {
            String start = eight(address * 2) + "?" + eight(word) + "?";
            return second == NONE ? start : start + eight(second) + "?";
        }

        private static String eight(int value) {
            return Integer.toBinaryString(256 + value).substring(1);
        }
    }

    private static final class Talker {
        ArrayList<Message> line = new ArrayList<>();
        boolean in;
        int came, lost, failed, dropped, failedFirst;
    }

    private static final class Ear {
        int address = NONE, hold, stuck, words, latest = NONE;
    }

    private record Logged(int wire, int place, int clock, int losers) {
    }

    private static final class Bus {
        Talker[] talkers = {new Talker(), new Talker(), new Talker(), new Talker()};
        Ear[] ears = {new Ear(), new Ear(), new Ear(), new Ear()};
        int[] settings = {2, 2, 10};
        ArrayDeque<Logged> log = new ArrayDeque<>();
        int clock, free, held, stuckRow, talks, shakes, came;
        String sent = "";
        boolean talk;

        Bus copy() {
            Bus b = new Bus();
            for (int i = 0; i < 4; i++) {
                Talker t = talkers[i], u = b.talkers[i];
                u.line = new ArrayList<>(t.line);
                u.in = t.in;
                u.came = t.came;
                u.lost = t.lost;
                u.failed = t.failed;
                u.dropped = t.dropped;
                u.failedFirst = t.failedFirst;
                Ear e = ears[i], f = b.ears[i];
                f.address = e.address;
                f.hold = e.hold;
                f.stuck = e.stuck;
                f.words = e.words;
                f.latest = e.latest;
            }
            b.settings = settings.clone();
            b.log = new ArrayDeque<>(log);
            b.clock = clock;
            b.free = free;
            b.held = held;
            b.stuckRow = stuckRow;
            b.talks = talks;
            b.shakes = shakes;
            b.came = came;
            b.sent = sent;
            b.talk = talk;
            return b;
        }

        List<Talker> inTalk() {
            List<Talker> in = new ArrayList<>();
            for (Talker t : talkers) if (t.in) in.add(t);
            return in;
        }

        char next(Talker t) {
            return t.line.get(0).bits().charAt(sent.length());
        }

        Ear earOf(int address) {
            for (Ear e : ears) if (e.address != NONE && e.address == address) return e;
            return null;
        }

        boolean anyStuck() {
            for (Ear e : ears) if (e.stuck > 0) return true;
            return false;
        }

        int kind() {
            if (anyStuck()) return 4;
            if (held > 0) return 3;
            if (!talk) return 0;
            return next(inTalk().get(0)) == '?' ? 2 : 1;
        }

        void endTalk() {
            talk = false;
            sent = "";
            free = 0;
            for (Talker t : talkers) t.in = false;
        }

        void note(int wire, int place, int losers) {
            log.addFirst(new Logged(wire, place, clock, losers));
            if (log.size() > 64) log.removeLast();
        }

        void tick() {
            clock++;
            if (anyStuck()) {
                stuck();
                return;
            }
            stuckRow = 0;
            if (held > 0) {
                held--;
            } else if (talk) {
                goOn();
            } else {
                free++;
                if (free >= settings[0]) start();
            }
        }

        void start() {
            for (Talker t : talkers) t.in = !t.line.isEmpty();
            if (inTalk().isEmpty()) return;
            talk = true;
            talks++;
            free = 0;
        }

        void stuck() {
            if (!talk) free = 0;
            if (talk && held == 0) {
                for (Talker t : inTalk()) {
                    if (next(t) == '1') {
                        t.in = false;
                        t.lost++;
                    }
                }
                if (inTalk().isEmpty()) endTalk();
            }
            stuckRow++;
            if (stuckRow >= settings[2]) {
                for (Ear e : ears) e.stuck = 0;
                stuckRow = 0;
                shakes++;
                return;
            }
            for (Ear e : ears) if (e.stuck > 0) e.stuck--;
        }

        void goOn() {
            List<Talker> in = inTalk();
            if (next(in.get(0)) == '?') {
                answer(in);
                return;
            }
            boolean low = false;
            for (Talker t : in) low |= next(t) == '0';
            int losers = 0;
            for (Talker t : in) {
                if (low && next(t) == '1') {
                    t.in = false;
                    t.lost++;
                    losers++;
                }
            }
            note(low ? 0 : 1, 0, losers);
            sent += low ? "0" : "1";
            Talker first = inTalk().get(0);
            if (next(first) == '?') {
                Ear e = earOf(first.line.get(0).address);
                held = e == null ? 0 : e.hold;
            }
        }

        void answer(List<Talker> in) {
            Ear e = earOf(Integer.parseInt(sent.substring(0, 7), 2));
            note(e == null ? 1 : 0, 1, 0);
            if (e == null) {
                for (Talker t : in) {
                    t.failed++;
                    t.failedFirst++;
                    if (t.failedFirst >= settings[1]) {
                        t.dropped++;
                        t.line.remove(0);
                        t.failedFirst = 0;
                    }
                }
                endTalk();
                return;
            }
            if (sent.length() > 8) {
                e.words++;
                e.latest = Integer.parseInt(sent.substring(sent.length() - 8), 2);
            }
            sent += "?";
            for (Talker t : in) {
                if (t.line.get(0).bits().length() == sent.length()) {
                    t.in = false;
                    t.came++;
                    came++;
                    t.line.remove(0);
                    t.failedFirst = 0;
                }
            }
            if (inTalk().isEmpty()) endTalk();
        }

        int waiting() {
            int n = 0;
            for (Talker t : talkers) n += t.line.size();
            return n;
        }
    }

    private static final class Model {
        private static final String A = "(?:0|[1-9][0-9]?|1[01][0-9]|12[0-7])";
        private static final String W = "(?:0|[1-9][0-9]?|1[0-9][0-9]|2[0-4][0-9]|25[0-5])";
        private static final String T = "(?:[1-9][0-9]?)";
        private static final String ORDER = "(?:say [0-3] " + A + " " + W + "(?: " + W + ")?|hear [0-3] " + A
                + "|hold [0-3] [0-9]|stick [0-3] " + T + "|run " + T + ")";
        private static final Pattern TEXT = Pattern.compile(ORDER + "(?:;" + ORDER + ")*");

        Bus now = new Bus();
        Bus kept;
        ArrayDeque<Bus> history = new ArrayDeque<>();
        String text = "";
        int stopOrder = NONE, stopError = NONE;

        private void record(Bus before) {
            history.addLast(before);
            if (history.size() > 4) history.removeFirst();
        }

        int act(int[] call) {
            Bus before = now.copy();
            int answer = plain(call);
            if (answer >= 0) record(before);
            return answer;
        }

        private static boolean in(int value, int least, int most) {
            return least <= value && value <= most;
        }

        int plain(int[] c) {
            boolean who = in(c[1], 0, 3);
            switch (c[0]) {
                case 0: {
                    if (!who) return -1;
                    if (!in(c[2], 0, 127) || !in(c[3], 0, 255) || !(in(c[4], 0, 255) || c[4] == NONE)) return -2;
                    if (now.talkers[c[1]].line.size() == 5) return -3;
                    now.talkers[c[1]].line.add(new Message(c[2], c[3], c[4]));
                    return now.talkers[c[1]].line.size();
                }
                case 1: {
                    if (!who) return -1;
                    Talker t = now.talkers[c[1]];
                    if (t.line.isEmpty()) return NONE;
                    if (t.line.size() == 1 && t.in) return -4;
                    t.line.remove(t.line.size() - 1);
                    if (t.line.isEmpty()) t.failedFirst = 0;
                    return t.line.size();
                }
                case 2: {
                    if (!who) return -1;
                    if (!in(c[2], 0, 127) && c[2] != NONE) return -2;
                    Ear e = now.earOf(c[2]);
                    if (e != null && e != now.ears[c[1]]) return -4;
                    if (now.ears[c[1]].address == c[2]) return NONE;
                    now.ears[c[1]].address = c[2];
                    int n = 0;
                    for (Ear each : now.ears) if (each.address != NONE) n++;
                    return n;
                }
                case 3: {
                    if (!who) return -1;
                    if (!in(c[2], 0, 9)) return -2;
                    int old = now.ears[c[1]].hold;
                    now.ears[c[1]].hold = c[2];
                    return old == c[2] ? NONE : old;
                }
                case 4: {
                    if (!who) return -1;
                    if (!in(c[2], 1, 99)) return -2;
                    now.ears[c[1]].stuck = c[2];
                    int n = 0;
                    for (Ear each : now.ears) if (each.stuck > 0) n++;
                    return n;
                }
                case 5: {
                    if (!in(c[1], 0, 2)) return -1;
                    if (!in(c[2], 1, new int[] {20, 9, 99}[c[1]])) return -2;
                    int old = now.settings[c[1]];
                    now.settings[c[1]] = c[2];
                    return old == c[2] ? NONE : old;
                }
                default: {
                    if (!in(c[1], 1, 300)) return -2;
                    if (now.clock + c[1] > 99999) return -3;
                    int before = now.came;
                    for (int i = 0; i < c[1]; i++) now.tick();
                    return now.came - before;
                }
            }
        }

        int fault() {
            for (int i = 1; i <= text.length(); i++) {
                Matcher m = TEXT.matcher(text.substring(0, i));
                if (!m.matches() && !m.hitEnd()) return i - 1;
            }
            return TEXT.matcher(text).matches() ? -1 : text.length();
        }

        int perform() {
            if (fault() >= 0) return -100 - fault();
            Bus before = now.copy();
            String[] orders = text.split(";");
            for (int i = 0; i < orders.length; i++) {
                String[] words = orders[i].split(" ");
                int[] call = {0, 0, 0, 0, NONE};
                call[0] = switch (words[0]) {
                    case "say" -> 0;
                    case "hear" -> 2;
                    case "hold" -> 3;
                    case "stick" -> 4;
                    default -> 6;
                };
                for (int k = 1; k < words.length; k++) call[k] = Integer.parseInt(words[k]);
                int answer = plain(call);
                if (answer < 0 && answer != NONE) {
                    stopOrder = i;
                    stopError = answer;
                    now = before;
                    return -4;
                }
            }
            record(before);
            return orders.length;
        }

        int undo() {
            if (history.isEmpty()) return NONE;
            now = history.removeLast();
            return history.size();
        }

        int restore() {
            if (kept == null) return NONE;
            record(now.copy());
            now = kept.copy();
            return now.clock;
        }

        int speaker(int s, int what) {
            if (!in(s, 0, 3)) return -1;
            if (!in(what, 0, 6)) return -2;
            Talker t = now.talkers[s];
            return new int[] {t.line.size(), t.in ? 1 : 0, t.came, t.lost, t.failed, t.dropped, t.failedFirst}[what];
        }

        int message(int s, int place, int what) {
            if (!in(s, 0, 3) || !in(place, 0, now.talkers[s].line.size() - 1)) return -1;
            if (!in(what, 0, 4)) return -2;
            Message m = now.talkers[s].line.get(place);
            int bits = m.bits().length();
            Ear e = now.earOf(m.address);
            int ticks = bits + (e == null ? 0 : e.hold * (int) m.bits().chars().filter(c -> c == '?').count());
            return new int[] {m.address, m.word, m.second, bits, ticks}[what];
        }

        int listener(int l, int what) {
            if (!in(l, 0, 3)) return -1;
            if (!in(what, 0, 4)) return -2;
            Ear e = now.ears[l];
            return new int[] {e.address, e.hold, e.stuck, e.words, e.latest}[what];
        }

        int bit(int back, int what) {
            if (back < 0 || !in(what, 0, 3)) return -2;
            if (back >= now.log.size()) return NONE;
            Logged l = new ArrayList<>(now.log).get(back);
            return new int[] {l.wire, l.place, l.clock, l.losers}[what];
        }

        // A message wins if no other one is lower at the first place where the two differ.
        int winners() {
            int set = 0;
            for (int i = 0; i < 4; i++) {
                boolean wins = !now.talkers[i].line.isEmpty();
                for (int k = 0; wins && k < 4; k++) {
                    if (now.talkers[k].line.isEmpty()) continue;
                    String mine = now.talkers[i].line.get(0).bits(), other = now.talkers[k].line.get(0).bits();
                    int n = Math.min(mine.length(), other.length());
                    wins = mine.substring(0, n).compareTo(other.substring(0, n)) <= 0;
                }
                if (wins) set |= 1 << i;
            }
            return set;
        }

        int emptyIn() {
            Bus b = now.copy();
            int ticks = 0;
            while (b.waiting() > 0 && ticks <= 1000) {
                b.tick();
                ticks++;
            }
            return ticks > 1000 ? NONE : ticks;
        }

        int ifRun(int s, int ticks) {
            if (!in(s, 0, 3)) return -1;
            if (!in(ticks, 1, 300)) return -2;
            Bus b = now.copy();
            for (int i = 0; i < ticks; i++) b.tick();
            return b.talkers[s].came - now.talkers[s].came;
        }

        int count(int what) {
            if (!in(what, 0, 15)) return -2;
            return new int[] {now.clock, now.inTalk().size(), now.kind(), now.held, now.free, now.stuckRow,
                now.sent.length(), now.waiting(), now.came, now.talks, now.shakes, now.settings[0],
                now.settings[1], now.settings[2], history.size(), text.length()}[what];
        }
    }

    private static int pick(Random r, int... values) {
        return values[r.nextInt(values.length)];
    }

    private static int near(Random r, int least, int most) {
        int odd = r.nextInt(40);
        if (odd == 0) return least - 1;
        if (odd == 1) return most + 1;
        if (odd == 2) return pick(r, NONE, Integer.MIN_VALUE, Integer.MAX_VALUE, -1, 1 << 30);
        if (odd < 8) return pick(r, least, most);
        return least + r.nextInt(most - least + 1);
    }

    private static int address(Random r) {
        return r.nextInt(8) == 0 ? near(r, 0, 127) : pick(r, 5, 5, 4, 7, 127, 0, 80);
    }

    private static int word(Random r) {
        return r.nextInt(4) == 0 ? near(r, 0, 255) : pick(r, 0, 1, 254, 255, 170);
    }

    private static String order(Random r) {
        int ear = r.nextInt(4);
        return switch (r.nextInt(8)) {
            case 0, 1, 2 -> "say " + ear + " " + Math.abs(address(r) % 130) + " " + Math.abs(word(r) % 260)
                    + (r.nextBoolean() ? "" : " " + Math.abs(word(r) % 260));
            case 3, 4 -> "hear " + ear + " " + Math.abs(address(r) % 130);
            case 5 -> "hold " + ear + " " + r.nextInt(11);
            case 6 -> "stick " + ear + " " + r.nextInt(30);
            default -> "run " + r.nextInt(102);
        };
    }

    private static String text(Random r) {
        StringBuilder text = new StringBuilder(order(r));
        int more = pick(r, 0, 0, 1, 2, 3, 8);
        for (int i = 0; i < more; i++) text.append(';').append(order(r));
        if (r.nextInt(3) == 0) {
            int at = r.nextInt(text.length());
            switch (r.nextInt(3)) {
                case 0 -> text.deleteCharAt(at);
                case 1 -> text.setLength(at);
                default -> text.insert(at, " ;0s1h9r25a-".charAt(r.nextInt(12)));
            }
        }
        return text.toString();
    }

    private static void due(int run, int got, int want) {
        if (got != want) {
            wrong++;
            if (wrong <= 5) System.out.println("ModelTests run " + run + trace + "\n  answered " + got + ", due is " + want);
        }
    }

    private static void askOne(PulledWires x, Random r, Model m, int run) {
        int a = near(r, 0, 3);
        switch (r.nextInt(12)) {
            case 0: case 1: { int what = near(r, 0, 6); due(run, x.speaker(a, what), m.speaker(a, what)); break; }
            case 2: { int p = near(r, 0, 4), what = near(r, 0, 4); due(run, x.message(a, p, what), m.message(a, p, what)); break; }
            case 3: case 4: { int what = near(r, 0, 4); due(run, x.listener(a, what), m.listener(a, what)); break; }
            case 5: { int b = near(r, 0, 64), what = near(r, 0, 3); due(run, x.bit(b, what), m.bit(b, what)); break; }
            case 6: due(run, x.winners(), m.winners()); break;
            case 7: due(run, x.emptyIn(), m.emptyIn()); break;
            case 8: { int t = near(r, 1, 300); due(run, x.ifRun(a, t), m.ifRun(a, t)); break; }
            case 9: { int w = near(r, 0, 1); due(run, x.stopped(w), w == 0 ? m.stopOrder : w == 1 ? m.stopError : -2); break; }
            default: { int what = near(r, 0, 15); due(run, x.count(what), m.count(what)); break; }
        }
    }

    private static int[] randomAct(Random r) {
        int kind = pick(r, 0, 0, 0, 0, 1, 2, 2, 3, 4, 5, 6, 6, 6, 6, 6);
        int first = kind == 6 ? (r.nextInt(3) == 0 ? near(r, 1, 300) : 1 + r.nextInt(30)) : near(r, 0, kind == 5 ? 2 : 3);
        switch (kind) {
            case 0: return new int[] {0, first, address(r), word(r), r.nextBoolean() ? NONE : word(r)};
            case 2: return new int[] {2, first, r.nextInt(6) == 0 ? NONE : address(r)};
            case 3: return new int[] {3, first, near(r, 0, 9)};
            case 4: return new int[] {4, first, r.nextBoolean() ? near(r, 1, 99) : 1 + r.nextInt(4)};
            case 5: return new int[] {5, first, near(r, 1, pick(r, 9, 20, 99, 3))};
            default: return new int[] {kind, first};
        }
    }

    private static int carryOut(PulledWires x, int[] c) {
        switch (c[0]) {
            case 0: return x.say(c[1], c[2], c[3], c[4]);
            case 1: return x.takeBack(c[1]);
            case 2: return x.hear(c[1], c[2]);
            case 3: return x.hold(c[1], c[2]);
            case 4: return x.stick(c[1], c[2]);
            case 5: return x.set(c[1], c[2]);
            default: return x.run(c[1]);
        }
    }

    private static void oneRun(int run) {
        Random r = new Random(run);
        PulledWires x = new PulledWires();
        Model m = new Model();
        trace.setLength(0);
        int left = CALLS;
        while (left > 0) {
            int kind = r.nextInt(100);
            if (kind < 45) {
                int[] call = randomAct(r);
                trace.append("\n  act ").append(java.util.Arrays.toString(call));
                due(run, carryOut(x, call), m.act(call));
                left--;
            } else if (kind < 90) {
                askOne(x, r, m, run);
                left--;
            } else if (kind < 93) {
                trace.append("\n  undo");
                due(run, x.undo(), m.undo());
                left--;
            } else if (kind < 95) {
                trace.append("\n  keep");
                m.kept = m.now.copy();
                due(run, x.keep(), m.now.clock);
                left--;
            } else if (kind < 97) {
                trace.append("\n  restore");
                due(run, x.restore(), m.restore());
                left--;
            } else {
                left -= typeAndPerform(x, r, m, run, left);
            }
        }
    }

    private static int typeAndPerform(PulledWires x, Random r, Model m, int run, int left) {
        int calls = 0;
        String text = text(r);
        trace.append("\n  perform ").append(text);
        if (r.nextInt(10) != 0 && left > 1) {
            due(run, x.clearText(), m.text.length());
            m.text = "";
            calls++;
        }
        for (int i = 0; i < text.length() && calls < left - 1; i++) {
            boolean full = m.text.length() == 80;
            due(run, x.type(text.charAt(i)), full ? -3 : m.text.length() + 1);
            m.text = full ? m.text : m.text + text.charAt(i);
            calls++;
        }
        due(run, x.perform(), m.perform());
        return calls + 1;
    }

    public static void main(String[] args) {
        for (int run = 1; run <= RUNS && wrong == 0; run++) {
            oneRun(run);
        }
        System.out.println("ModelTests: " + RUNS + " runs, " + wrong + " answers not as due");
        if (wrong != 0) System.exit(1);
    }
}
