import java.util.ArrayList;
import java.util.List;
import java.util.Map;
import java.util.Random;
import java.util.TreeMap;

/** Runs of calls with fixed seeds, compared with a model that works from lists and searches them anew. */
public final class MessageActsModelRuns {
    private static final int RUNS = 1500;
    /** An object is promised for 512 calls: so many change it, and what is left of them looks at it. */
    private static final int CALLS = 250;
    private static final int BETWEEN_LOOKS = 25;
    private static final long THROWS_ARGUMENT = Long.MIN_VALUE;
    private static final long THROWS_INDEX = Long.MIN_VALUE + 1;

    /** One message; where it stands is told by the lists of the model that hold it, or by its end. */
    private static final class Told {
        int sender;
        int number;
        int function;
        int subject;
        int v;
        int came;
        int waitFrom;
        int rule;
        int asked;

        int name() {
            return 1000 * sender + number;
        }
    }

    private static final class Model {
        final List<TreeMap<Integer, Told>> here = new ArrayList<>();
        final List<TreeMap<Integer, Told>> lost = new ArrayList<>();
        final List<List<Integer>> skipped = new ArrayList<>();
        final List<Told> held = new ArrayList<>();
        final List<Told> waits = new ArrayList<>();
        final List<Told> again = new ArrayList<>();
        final List<Told> acted = new ArrayList<>();
        final List<Told> ended = new ArrayList<>();
        final char[] states = "UUUUUUUUUUUUUUUU".toCharArray();
        final int[] values = new int[16];
        final List<Integer> failing = new ArrayList<>();
        int time = 0;
        int doubled = 0;

        Model() {
            for (int i = 0; i < 4; i++) {
                here.add(new TreeMap<>());
                lost.add(new TreeMap<>());
                skipped.add(new ArrayList<>());
            }
        }

        boolean gap(int sender, int number) {
            return !here.get(sender).containsKey(number) && !skipped.get(sender).contains(number);
        }

        int firstGap(int sender) {
            int number = 1;
            while (number < 25 && !gap(sender, number)) {
                number++;
            }
            return number;
        }

        int stateNumber(int subject) {
            return "UOFC".indexOf(states[subject]);
        }

        long receive(int sender, int number, int function, int subject, int v) {
            if (sender < 0 || sender > 3 || number < 1 || number > 24 || function < 0 || function > 4
                    || subject < 0 || subject > 15 || v < -1000 || v > 1000) {
                return THROWS_ARGUMENT;
            }
            if (!gap(sender, number)) {
                doubled++;
                return 3;
            }
            lost.get(sender).remove(number);
            Told told = new Told();
            told.sender = sender;
            told.number = number;
            told.function = function;
            told.subject = subject;
            told.v = v;
            arrive(told);
            if (held.contains(told)) {
                return 2;
            }
            if (waits.contains(told)) {
                return 4;
            }
            if (again.contains(told)) {
                return 5;
            }
            return told.rule > 0 ? -told.rule : 1;
        }

        void arrive(Told told) {
            boolean closes = told.number == firstGap(told.sender);
            boolean behind = told.number > firstGap(told.sender);
            told.came = time;
            here.get(told.sender).put(told.number, told);
            if (behind && told.function != 3) {
                held.add(told);
            } else {
                turn(told, false);
            }
            if (closes) {
                release(told.sender, told.number);
            }
        }

        void release(int sender, int closed) {
            for (int number = closed + 1; number < 25 && !gap(sender, number); number++) {
                Told told = here.get(sender).get(number);
                if (told != null && held.remove(told)) {
                    turn(told, false);
                }
            }
        }

        void turn(Told told, boolean second) {
            char state = states[told.subject];
            int sum = values[told.subject] + told.v;
            boolean onOpen = told.function == 1 || told.function == 2 || told.function == 4;
            if (told.function == 0 && (state == 'O' || state == 'F')) {
                told.rule = 1;
            } else if (onOpen && state == 'F') {
                told.rule = 2;
            } else if (onOpen && state == 'C') {
                told.rule = 3;
            } else if (told.function == 2 && state == 'O' && (sum < -1000000 || sum > 1000000)) {
                told.rule = 4;
            } else if (onOpen && state == 'U' && waits.size() == 12) {
                told.rule = 5;
            } else if (onOpen && state == 'U') {
                told.waitFrom = time;
                waits.add(told);
            } else if (failing.remove((Integer) told.function)) {
                (second ? ended : again).add(told);
            } else {
                change(told);
            }
        }

        void change(Told told) {
            boolean wasUnknown = states[told.subject] == 'U';
            acted.add(told);
            if (told.function == 0) {
                states[told.subject] = 'O';
                values[told.subject] = told.v;
            } else if (told.function == 1) {
                values[told.subject] = told.v;
            } else if (told.function == 2) {
                values[told.subject] += told.v;
            } else if (told.function == 3) {
                told.asked = 10 * values[told.subject] + stateNumber(told.subject);
            } else {
                states[told.subject] = 'C';
            }
            if (wasUnknown && states[told.subject] != 'U') {
                for (Told waiter : new ArrayList<>(waits)) {
                    if (waiter.subject == told.subject) {
                        waits.remove(waiter);
                        turn(waiter, false);
                    }
                }
            }
        }

        long status(int sender, int number) {
            if (sender < 0 || sender > 3 || number < 1 || number > 24) {
                return THROWS_ARGUMENT;
            }
            if (lost.get(sender).containsKey(number)) {
                return 6;
            }
            Told told = here.get(sender).get(number);
            if (told == null) {
                return -1;
            }
            return held.contains(told) ? 0 : acted.contains(told) ? 1 : told.rule > 0 ? 2
                    : waits.contains(told) ? 3 : again.contains(told) ? 4 : 5;
        }

        long answer(int sender, int number) {
            if (sender < 0 || sender > 3 || number < 1 || number > 24) {
                return THROWS_ARGUMENT;
            }
            Told told = here.get(sender).get(number);
            return told == null ? 0 : told.rule > 0 ? -told.rule : told.asked;
        }

        long point(int subject) {
            if (subject < 0 || subject > 15 || states[subject] != 'O') {
                return 0;
            }
            states[subject] = 'F';
            return 1;
        }

        long fails(int function, boolean on) {
            if (function < 0 || function > 4 || failing.contains(function) == on) {
                return 0;
            }
            if (on) {
                failing.add(function);
            } else {
                failing.remove((Integer) function);
            }
            return 1;
        }

        long tick(int told) {
            if (told < time || told > 100000) {
                return THROWS_ARGUMENT;
            }
            time = told;
            int before = ended.size();
            List<Told> due = new ArrayList<>(again);
            again.clear();
            for (Told one : due) {
                turn(one, true);
            }
            for (Told one : new ArrayList<>(waits)) {
                if (time - one.waitFrom > 50) {
                    waits.remove(one);
                    ended.add(one);
                }
            }
            return ended.size() - before;
        }

        long skip(int sender) {
            if (sender < 0 || sender > 3) {
                return THROWS_ARGUMENT;
            }
            int gap = firstGap(sender);
            boolean may = false;
            for (Map.Entry<Integer, Told> one : here.get(sender).entrySet()) {
                may |= one.getKey() > gap && time - one.getValue().came > 100;
            }
            if (!may) {
                return -1;
            }
            skipped.get(sender).add(gap);
            release(sender, gap);
            return gap;
        }

        long cut(int sender) {
            if (sender < 0 || sender > 3) {
                return THROWS_ARGUMENT;
            }
            int gone = 0;
            for (Told told : new ArrayList<>(held)) {
                if (told.sender == sender) {
                    held.remove(told);
                    here.get(sender).remove(told.number);
                    lost.get(sender).put(told.number, told);
                    gone++;
                }
            }
            return gone;
        }

        long replay(int sender, int from) {
            if (sender < 0 || sender > 3 || from < 1 || from > 24) {
                return THROWS_ARGUMENT;
            }
            int back = 0;
            for (Told told : new ArrayList<>(lost.get(sender).tailMap(from).values())) {
                if (!skipped.get(sender).contains(told.number)) {
                    lost.get(sender).remove(told.number);
                    arrive(told);
                    back++;
                }
            }
            return back;
        }

        long look(int subject, int what) {
            if (subject < 0 || subject > 15 || what < 0 || what > 3) {
                return THROWS_INDEX;
            }
            List<Told> among = what == 2 ? acted : waits;
            int found = 0;
            for (Told told : among) {
                found += told.subject == subject ? 1 : 0;
            }
            return what == 0 ? stateNumber(subject) : what == 1 ? values[subject] : found;
        }

        long act(int i) {
            return i < 0 || i >= acted.size() ? -1 : acted.get(i).name();
        }

        long dead(int i) {
            return i < 0 || i >= ended.size() ? -1 : ended.get(i).name();
        }

        long of(int sender, int what) {
            if (sender < 0 || sender > 3 || what < 0 || what > 3) {
                return -1;
            }
            if (what == 1) {
                int found = 0;
                for (Told told : held) {
                    found += told.sender == sender ? 1 : 0;
                }
                return found;
            }
            return what == 0 ? firstGap(sender) : what == 2 ? lost.get(sender).size()
                    : here.get(sender).isEmpty() ? 0 : here.get(sender).lastKey();
        }

        long count(int what) {
            switch (what) {
                case 0: return acted.size();
                case 1: return ended.size();
                case 2: return time;
                case 3: return doubled;
                case 4: return waits.size();
                case 5: return again.size();
                default: return -1;
            }
        }
    }

    /** What a run draws its calls from: few senders and subjects make many meetings. */
    private static final class Draw {
        final Random random;
        final int senders;
        final int subjects;
        final int numbers;
        final int stride;

        Draw(int run) {
            random = new Random(run);
            senders = 1 + random.nextInt(4);
            subjects = 1 + random.nextInt(run % 2 == 0 ? 3 : 16);
            numbers = 3 + random.nextInt(22);
            stride = run % 3 == 0 ? 4 : 70;
        }

        /** Mostly what exists, now and then one beside it. */
        int near(int least, int end) {
            if (random.nextInt(60) == 0) {
                return random.nextBoolean() ? least - 1 : random.nextInt();
            }
            return least + random.nextInt(end - least);
        }

        int number() {
            return near(1, numbers + 1);
        }
    }

    private static int wrong = 0;

    private static void due(int run, int call, String name, int[] a, long got, long want) {
        if (got != want) {
            wrong++;
            if (wrong < 20) {
                System.out.println("run " + run + ", call " + call + ": " + name + java.util.Arrays.toString(a)
                        + " answered " + got + ", the model " + want);
            }
        }
    }

    private static long call(MessageActs x, int kind, int[] a) {
        try {
            switch (kind) {
                case 0: return x.receive(a[0], a[1], a[2], a[3], a[4]);
                case 1: return x.status(a[0], a[1]);
                case 2: return x.answer(a[0], a[1]);
                case 3: return x.point(a[0]) ? 1 : 0;
                case 4: return x.fails(a[0], a[1] == 1) ? 1 : 0;
                case 5: return x.tick(a[0]);
                case 6: return x.skip(a[0]);
                case 7: return x.cut(a[0]);
                case 8: return x.replay(a[0], a[1]);
                case 9: return x.look(a[0], a[1]);
                case 10: return x.act(a[0]);
                case 11: return x.dead(a[0]);
                case 12: return x.of(a[0], a[1]);
                default: return x.count(a[0]);
            }
        } catch (IllegalArgumentException e) {
            return THROWS_ARGUMENT;
        } catch (IndexOutOfBoundsException e) {
            return e.getClass() == IndexOutOfBoundsException.class ? THROWS_INDEX : THROWS_INDEX + 1;
        }
    }

    private static long call(Model m, int kind, int[] a) {
        switch (kind) {
            case 0: return m.receive(a[0], a[1], a[2], a[3], a[4]);
            case 1: return m.status(a[0], a[1]);
            case 2: return m.answer(a[0], a[1]);
            case 3: return m.point(a[0]);
            case 4: return m.fails(a[0], a[1] == 1);
            case 5: return m.tick(a[0]);
            case 6: return m.skip(a[0]);
            case 7: return m.cut(a[0]);
            case 8: return m.replay(a[0], a[1]);
            case 9: return m.look(a[0], a[1]);
            case 10: return m.act(a[0]);
            case 11: return m.dead(a[0]);
            case 12: return m.of(a[0], a[1]);
            default: return m.count(a[0]);
        }
    }

    private static int[] arguments(Draw d, int kind, int now) {
        switch (kind) {
            case 0: return new int[] {d.near(0, d.senders), d.number(), d.near(0, 5), d.near(0, d.subjects),
                d.near(-1000, 1001)};
            case 3: return new int[] {d.near(0, d.subjects)};
            case 4: return new int[] {d.near(0, 5), d.random.nextInt(4) == 0 ? 0 : 1};
            case 5: return new int[] {d.near(now, now + d.stride)};
            case 1:
            case 2:
            case 8: return new int[] {d.near(0, d.senders), d.number()};
            case 9: return new int[] {d.near(0, d.subjects), d.near(0, 4)};
            case 10:
            case 11: return new int[] {d.near(0, 97)};
            case 12: return new int[] {d.near(0, d.senders), d.near(0, 4)};
            case 13: return new int[] {d.near(0, 6)};
            default: return new int[] {d.near(0, d.senders)};
        }
    }

    private static final String[] NAMES = {"receive", "status", "answer", "point", "fails", "tick", "skip", "cut",
        "replay", "look", "act", "dead", "of", "count"};
    private static final int[] CHANGING = {0, 0, 0, 0, 0, 0, 0, 0, 0, 0, 0, 0, 3, 4, 4, 5, 5, 5, 6, 6, 7, 8};
    private static final int[] LOOKING = {1, 2, 9, 10, 11, 12, 13, 13, 13};

    private static void both(int run, int n, MessageActs x, Model m, int kind, int... a) {
        due(run, n, NAMES[kind], a, call(x, kind, a), call(m, kind, a));
    }

    private static void compareSenders(int run, int n, MessageActs x, Model m) {
        for (int sender = 0; sender < 4; sender++) {
            for (int number = 1; number < 25; number++) {
                both(run, n, x, m, 1, sender, number);
                both(run, n, x, m, 2, sender, number);
            }
            for (int what = 0; what < 4; what++) {
                both(run, n, x, m, 12, sender, what);
            }
        }
    }

    private static void compareSubjectsAndOrder(int run, int n, MessageActs x, Model m) {
        for (int subject = 0; subject < 16; subject++) {
            for (int what = 0; what < 4; what++) {
                both(run, n, x, m, 9, subject, what);
            }
        }
        for (int i = 0; i < 97; i++) {
            both(run, n, x, m, 10, i);
            both(run, n, x, m, 11, i);
        }
    }

    /** Another object that met the same calls, so that looking at it does not use up the calls of the first. */
    private static MessageActs again(List<Integer> kinds, List<int[]> arguments) {
        MessageActs x = new MessageActs();
        for (int i = 0; i < kinds.size(); i++) {
            call(x, kinds.get(i), arguments.get(i));
        }
        return x;
    }

    private static void run(int run) {
        MessageActs x = new MessageActs();
        Model m = new Model();
        Draw d = new Draw(run);
        List<Integer> kinds = new ArrayList<>();
        List<int[]> told = new ArrayList<>();
        for (int n = 0; n < CALLS; n++) {
            int kind = CHANGING[d.random.nextInt(CHANGING.length)];
            kinds.add(kind);
            told.add(arguments(d, kind, m.time));
            both(run, n, x, m, kind, told.get(n));
            int look = LOOKING[d.random.nextInt(LOOKING.length)];
            both(run, n, x, m, look, arguments(d, look, m.time));
            if ((n + 1) % BETWEEN_LOOKS == 0) {
                compareSenders(run, n, again(kinds, told), m);
                compareSubjectsAndOrder(run, n, again(kinds, told), m);
            }
        }
        for (int what = 0; what < 6; what++) {
            both(run, CALLS, x, m, 13, what);
        }
    }

    public static void main(String[] args) {
        for (int run = 0; run < RUNS; run++) {
            run(run);
        }
        System.out.println(RUNS + " runs, " + wrong + " answers unlike the model's");
        if (wrong != 0) {
            System.exit(1);
        }
    }
}
