import java.util.ArrayList;
import java.util.Arrays;
import java.util.LinkedList;
import java.util.List;
import java.util.regex.Matcher;
import java.util.regex.Pattern;

/** The document once more, written apart from the class and as slowly as it likes, to compare answers with. */
final class Model {
    private static final int BAD = -1, NO = -2, FULL = -3, NONE = -4;
    private static final Pattern ITEM = Pattern.compile("([a-z])(\\d\\d?)(?:,(\\d\\d?))?;");

    private static final class Told {
        List<int[]> trains = new ArrayList<>(), users = new ArrayList<>();
        List<int[]> closings = new ArrayList<>(), odds = new ArrayList<>();
        int gates = 4, stop = 20, patience = 60, round = 30;
        int[] wait = {1, 1, 5, 1};
        int fault = NONE;
    }

    private static final class State {
        int[] late;
        List<int[]> closings;

        State(int[] late, List<int[]> closings) {
            this.late = late.clone();
            this.closings = new ArrayList<>(closings);
        }

        State copy() {
            return new State(late, closings);
        }
    }

    private static final class Run {
        int[] gates = new int[360];
        int[] passed, stopped, crossed, waited;
        int cost = 0;
    }

    private final StringBuilder text = new StringBuilder();
    private Told told = read("t10,0;t13,1;t30,2;t41,0;u8,0;u9,1;u12,2;u29,3;u31,0;u40,0;"
        + "g4;c20;a60,30;k6,14;k29,32;k38,43;o0,5;o2,3;o5,2;");
    private State state = new State(new int[4], told.closings);
    private final LinkedList<State> past = new LinkedList<>();
    private final LinkedList<State> kept = new LinkedList<>();
    private final List<int[]> seen = new ArrayList<>();

    private static Told read(String text) {
        Told t = new Told();
        Matcher m = ITEM.matcher(text);
        int at = 0;
        while (at < text.length()) {
            m.region(at, text.length());
            if (!m.lookingAt() || !take(t, m.group(1).charAt(0), Integer.parseInt(m.group(2)),
                m.group(3) == null ? -1 : Integer.parseInt(m.group(3)))) {
                t.fault = at;
                return t;
            }
            at = m.end();
        }
        return t;
    }

    /** b is -1 where there is but one number. */
    private static boolean take(Told t, char letter, int a, int b) {
        boolean one = letter == 'g' || letter == 'c';
        if (one != (b == -1)) return false;
        if (letter == 't') return a < 60 && b < 3 && t.trains.size() < 6 && t.trains.add(new int[] {a, b});
        if (letter == 'u') return a < 60 && b < 4 && t.users.size() < 8 && t.users.add(new int[] {a, b});
        if (letter == 'k') return b <= 60 && a < b && t.closings.size() < 6 && t.closings.add(new int[] {a, b});
        if (letter == 'o') return a < 10 && b < 11 && t.odds.size() < 5 && t.odds.add(new int[] {a, b});
        if (letter == 'g') {
            t.gates = a;
            return a >= 1 && a <= 9;
        }
        if (letter == 'c') {
            t.stop = a;
            return true;
        }
        if (letter == 'w') {
            if (a > 3 || b > 9) return false;
            t.wait[a] = b;
            return true;
        }
        if (letter == 'a') {
            t.patience = a;
            t.round = b;
            return a >= 1;
        }
        return false;
    }

    private int bell(int i, State s) {
        int kind = told.trains.get(i)[1];
        if (kind == 2) return NONE;
        int at = (told.trains.get(i)[0] + s.late[i]) * 6 - (kind == 0 ? 66 : 36);
        if (at < 0) at = 0;
        return at > 359 ? NONE : at;
    }

    /** lead is -1 but for LEAD. */
    private Run run(int rule, int lead, State s) {
        Run r = new Run();
        int trains = told.trains.size(), users = told.users.size();
        r.passed = new int[trains];
        r.stopped = new int[trains];
        r.crossed = new int[users];
        r.waited = new int[users];
        Arrays.fill(r.passed, NONE);
        Arrays.fill(r.crossed, NONE);
        boolean[] gone = new boolean[trains];
        List<Integer> queue = new ArrayList<>();
        String gate = "open";
        int moveLeft = 0, onRoad = 0, onRail = 0, railTrain = -1;
        boolean stoppedAhead = false;
        for (int beat = 0; beat < 360; beat++) {
            if (gate.equals("closing") && --moveLeft == 0) gate = "shut";
            if (gate.equals("opening") && --moveLeft == 0) gate = "open";

            boolean sight = onRail > 0 || stoppedAhead;
            boolean want = lead >= 0 ? wantsLead(lead, beat, s, gone) : wants(rule, beat, s, gone, sight);
            if (gate.equals("open") && want && onRoad == 0) {
                gate = "closing";
                moveLeft = told.gates;
            } else if (gate.equals("shut") && !want && onRail == 0 && !stoppedAhead) {
                gate = "opening";
                moveLeft = told.gates;
            }

            stoppedAhead = false;
            for (int i = 0; i < trains; i++) {
                int comes = 6 * told.trains.get(i)[0] + 6 * s.late[i];
                if (comes > beat || r.passed[i] != NONE) continue;
                if (gate.equals("shut") && onRail == 0 && onRoad == 0) {
                    r.passed[i] = beat;
                    onRail = 3;
                    railTrain = i;
                } else {
                    r.stopped[i]++;
                    r.cost += told.stop;
                    stoppedAhead = true;
                }
            }

            for (int i = 0; i < users; i++) {
                if (6 * told.users.get(i)[0] == beat) queue.add(i);
            }
            queue.sort(null);
            if (onRoad == 0 && onRail == 0) {
                Integer who = chosen(queue, gate);
                if (who != null) {
                    queue.remove(who);
                    r.crossed[who] = beat;
                    onRoad = new int[] {2, 30, 1, 1}[told.users.get(who)[1]];
                }
            }
            for (Integer who : new ArrayList<>(queue)) {
                r.waited[who]++;
                r.cost += told.wait[told.users.get(who)[1]];
                if (r.waited[who] == told.patience) {
                    r.cost += told.round;
                    queue.remove(who);
                }
            }
            r.gates[beat] = gate.equals("open") ? 0 : gate.equals("shut") ? 2 : 1;

            if (onRoad > 0) onRoad--;
            if (onRail > 0 && --onRail == 0) gone[railTrain] = true;
        }
        return r;
    }

    private Integer chosen(List<Integer> queue, String gate) {
        if (gate.equals("shut")) return null;
        if (gate.equals("open")) {
            for (Integer who : queue) if (told.users.get(who)[1] == 2) return who;
            return queue.isEmpty() ? null : queue.get(0);
        }
        for (Integer who : queue) if (told.users.get(who)[1] == 3) return who;
        return null;
    }

    private boolean wantsLead(int lead, int beat, State s, boolean[] gone) {
        for (int i = 0; i < gone.length; i++) {
            if (!gone[i] && beat + lead >= 6 * (told.trains.get(i)[0] + s.late[i])) return true;
        }
        return false;
    }

    private boolean wants(int rule, int beat, State s, boolean[] gone, boolean sight) {
        boolean plan = false, bells = false, book = false;
        for (int[] c : s.closings) plan |= beat / 6 >= c[0] && beat / 6 < c[1];
        for (int i = 0; i < gone.length; i++) {
            int bell = bell(i, s), due = told.trains.get(i)[0] * 6;
            bells |= bell != NONE && beat >= bell && !gone[i];
            book |= told.trains.get(i)[1] != 2 && !gone[i] && due - beat >= 0 && due - beat <= 24;
        }
        return rule == 0 ? plan : rule == 1 ? bells : rule == 2 ? sight : bells || sight || book;
    }

    private boolean badRule(int rule) {
        return rule < 0 || rule > 3;
    }

    private boolean badTrain(int i) {
        return i < 0 || i >= told.trains.size();
    }

    private boolean badUser(int i) {
        return i < 0 || i >= told.users.size();
    }

    private boolean bad01(int what) {
        return what != 0 && what != 1;
    }

    int write(int letter) {
        if (letter < 32 || letter > 126) return BAD;
        if (text.length() == 200) return FULL;
        text.append((char) letter);
        return text.length();
    }

    int wipe() {
        int was = text.length();
        text.setLength(0);
        return was;
    }

    int fault() {
        return read(text.toString()).fault;
    }

    int lay() {
        Told t = read(text.toString());
        int tenths = t.odds.stream().mapToInt(o -> o[1]).sum();
        if (t.fault != NONE || t.trains.isEmpty() || !t.odds.isEmpty() && tenths != 10) return NO;
        told = t;
        state = new State(new int[t.trains.size()], t.closings);
        past.clear();
        kept.clear();
        seen.clear();
        return t.trains.size();
    }

    int train(int i, int what) {
        if (badTrain(i) || what < 0 || what > 3) return BAD;
        return what < 2 ? told.trains.get(i)[what] : what == 2 ? state.late[i] : bell(i, state);
    }

    int user(int i, int what) {
        return badUser(i) || bad01(what) ? BAD : told.users.get(i)[what];
    }

    int gates(int rule, int beat) {
        return badRule(rule) || beat < 0 || beat > 359 ? BAD : run(rule, -1, state).gates[beat];
    }

    int passed(int rule, int i) {
        return badRule(rule) || badTrain(i) ? BAD : run(rule, -1, state).passed[i];
    }

    int stopped(int rule, int i) {
        return badRule(rule) || badTrain(i) ? BAD : run(rule, -1, state).stopped[i];
    }

    int crossed(int rule, int i) {
        return badRule(rule) || badUser(i) ? BAD : run(rule, -1, state).crossed[i];
    }

    int waited(int rule, int i) {
        return badRule(rule) || badUser(i) ? BAD : run(rule, -1, state).waited[i];
    }

    int cost(int rule) {
        return badRule(rule) ? BAD : run(rule, -1, state).cost;
    }

    private void remember() {
        past.addLast(state.copy());
        if (past.size() > 8) past.removeFirst();
    }

    int late(int i, int minutes) {
        if (badTrain(i) || minutes < 0 || minutes > 30) return BAD;
        remember();
        int was = state.late[i];
        state.late[i] = minutes;
        return was;
    }

    int shut(int a, int b) {
        if (a < 0 || b > 60 || a >= b) return BAD;
        if (state.closings.size() == 6) return FULL;
        remember();
        state.closings.add(new int[] {a, b});
        return state.closings.size();
    }

    int leave(int k) {
        if (k < 0 || k >= state.closings.size()) return BAD;
        remember();
        state.closings.remove(k);
        return state.closings.size();
    }

    int undo() {
        if (past.isEmpty()) return NO;
        state = past.removeLast();
        return past.size();
    }

    int cheapest(int what) {
        if (bad01(what)) return BAD;
        int best = 0, least = Integer.MAX_VALUE;
        for (int rule = 3; rule >= 0; rule--) {
            int cost = cost(rule);
            if (cost <= least) {
                least = cost;
                best = rule;
            }
        }
        return what == 0 ? best : least;
    }

    int lead(int what) {
        if (bad01(what)) return BAD;
        int best = 0, least = Integer.MAX_VALUE;
        for (int n = 99; n >= 0; n--) {
            int cost = run(-1, n, state).cost;
            if (cost <= least) {
                least = cost;
                best = n;
            }
        }
        return what == 0 ? best : least;
    }

    private State withLate(int i, int minutes) {
        State s = state.copy();
        s.late[i] = minutes;
        return s;
    }

    int more(int rule, int i, int d) {
        if (badRule(rule) || badTrain(i) || d < 1 || d > 9) return BAD;
        if (state.late[i] + d > 30) return NO;
        return run(rule, -1, withLate(i, state.late[i] + d)).cost + 99999 - cost(rule);
    }

    int dinner(int rule, int what) {
        if (badRule(rule) || bad01(what)) return BAD;
        int[] gates = run(rule, -1, state).gates;
        for (int size = 360; size > 0; size--) {
            for (int from = 0; from + size <= 360; from++) {
                int beat = from;
                while (beat < from + size && gates[beat] == 0) beat++;
                if (beat == from + size) return what == 0 ? size : from;
            }
        }
        return NONE;
    }

    private static int lowest(int above, int below, int part) {
        int a = above, b = below;
        while (b != 0) {
            int rest = a % b;
            a = b;
            b = rest;
        }
        return (part == 0 ? above : below) / a;
    }

    int byNow(int m, int d, int part) {
        if (m < 0 || m > 9 || d < 0 || d > 9 || bad01(part)) return BAD;
        int all = told.odds.stream().filter(o -> o[0] > m).mapToInt(o -> o[1]).sum();
        int such = told.odds.stream().filter(o -> o[0] > m && o[0] == d).mapToInt(o -> o[1]).sum();
        return all == 0 ? NONE : lowest(such, all, part);
    }

    int which(int m) {
        if (m < 0 || m > 59) return BAD;
        int bits = 0;
        for (int i = 0; i < told.trains.size(); i++) {
            int bell = bell(i, state);
            if (bell >= 6 * m && bell <= 6 * m + 5) bits += 1 << i;
        }
        return bits;
    }

    int seen(int beat, int how) {
        if (beat < 0 || beat > 359 || how < 0 || how > 2) return BAD;
        if (seen.size() == 8) return FULL;
        seen.add(new int[] {beat, how});
        return seen.size();
    }

    int forget() {
        int were = seen.size();
        seen.clear();
        return were;
    }

    int fits() {
        int bits = 0;
        for (int rule = 0; rule < 4; rule++) {
            int[] gates = run(rule, -1, state).gates;
            if (seen.stream().allMatch(s -> gates[s[0]] == s[1])) bits += 1 << rule;
        }
        return bits;
    }

    int bridge(int rule, int x) {
        if (badRule(rule) || x < 1 || x > 99) return BAD;
        int cost = cost(rule);
        for (int days = 1; days <= 999; days++) if (days * cost >= 100 * x) return days;
        return NONE;
    }

    int mean(int rule, int i, int part) {
        if (badRule(rule) || badTrain(i) || bad01(part)) return BAD;
        if (told.odds.isEmpty()) return NONE;
        int sum = 0;
        for (int[] o : told.odds) sum += o[1] * run(rule, -1, withLate(i, o[0])).cost;
        return lowest(sum, 10, part);
    }

    int day(int rule, int z, int what) {
        if (badRule(rule) || z < 0 || z > 9999 || bad01(what)) return BAD;
        State s = state.copy();
        for (int i = 0; i < s.late.length; i++) {
            java.math.BigInteger q = java.math.BigInteger.valueOf(7919L * z + 6151L * i + 1);
            s.late[i] = q.multiply(q).mod(java.math.BigInteger.valueOf(65521)).intValue() % 6;
        }
        Run r = run(rule, -1, s);
        return what == 0 ? r.cost : Arrays.stream(r.stopped).sum();
    }

    int keep() {
        if (kept.size() == 2) return FULL;
        kept.addLast(state.copy());
        return kept.size();
    }

    int back() {
        if (kept.isEmpty()) return NO;
        state = kept.removeLast();
        past.clear();
        return kept.size();
    }

    int count(int what) {
        if (what < 0 || what > 6) return BAD;
        return new int[] {told.trains.size(), told.users.size(), state.closings.size(), seen.size(), past.size(),
            kept.size(), text.length()}[what];
    }
}
