/** Acts on the messages of several senders, each message once; ../shared/DOC.md tells its promises. */
public final class MessageActs {
    public static final int NONE = -1;

    private static final int SENDERS = 4;
    private static final int SUBJECTS = 16;
    private static final int FUNCTIONS = 5;
    private static final int NUMBERS = 24;
    private static final int ALL_MESSAGES = SENDERS * NUMBERS;
    private static final int GREATEST_V = 1000;
    private static final int GREATEST_VALUE = 1000000;
    private static final int LAST_TIME = 100000;
    private static final int MOST_WAITING = 12;
    private static final int LONGEST_WAIT = 50;
    private static final int SKIP_AFTER = 100;

    private static final int NEW = 0;
    private static final int REPLACE = 1;
    private static final int CHANGE = 2;
    private static final int ASK = 3;
    private static final int CANCEL = 4;

    private static final int UNKNOWN = 0;
    private static final int OPEN = 1;
    private static final int FIXED = 2;
    private static final int CANCELLED = 3;

    private static final int HELD = 0;
    private static final int ACTED = 1;
    private static final int REFUSED = 2;
    private static final int WAITS = 3;
    private static final int TRIED_AGAIN = 4;
    private static final int DEAD = 5;
    private static final int LOST = 6;

    private static final int RECEIVED_ACTED = 1;
    private static final int RECEIVED_HELD = 2;
    private static final int RECEIVED_ALREADY = 3;
    private static final int RECEIVED_WAITS = 4;
    private static final int RECEIVED_TRIED_AGAIN = 5;

    /** What a turn comes to: one of these two, or else the number of the rule that refuses it. */
    private static final int MAY_ACT = 0;
    private static final int MUST_WAIT = -1;

    private static final int RULE_KNOWN_ALREADY = 1;
    private static final int RULE_FIXED = 2;
    private static final int RULE_CANCELLED = 3;
    private static final int RULE_BEYOND = 4;
    private static final int RULE_TOO_MANY_WAIT = 5;

    private final Sender[] senders = new Sender[SENDERS];
    private final Subject[] subjects = new Subject[SUBJECTS];
    private final boolean[] failing = new boolean[FUNCTIONS];
    private final Line acts = new Line();
    private final Line deads = new Line();
    private final Line waiting = new Line();
    private final Line failed = new Line();
    private int now = 0;
    private int doubles = 0;

    public MessageActs() {
        for (int i = 0; i < SENDERS; i++) {
            senders[i] = new Sender();
        }
        for (int i = 0; i < SUBJECTS; i++) {
            subjects[i] = new Subject();
        }
    }

    public int receive(int sender, int number, int function, int subject, int v) throws IllegalArgumentException {
        checkSender(sender);
        checkNumber(number);
        checkContent(function, subject, v);
        Sender from = senders[sender];
        if (!from.isGap(number)) {
            doubles++;
            return RECEIVED_ALREADY;
        }
        Message message = new Message(1000 * sender + number, function, subjects[subject], v);
        from.put(number, message);
        come(from, message);
        return received(message);
    }

    public int status(int sender, int number) throws IllegalArgumentException {
        checkSender(sender);
        checkNumber(number);
        Message message = senders[sender].get(number);
        return message == null ? NONE : message.status;
    }

    public int answer(int sender, int number) throws IllegalArgumentException {
        checkSender(sender);
        checkNumber(number);
        Message message = senders[sender].get(number);
        return message == null ? 0 : message.answer;
    }

    public boolean point(int subject) {
        if (!isSubject(subject) || subjects[subject].state != OPEN) {
            return false;
        }
        subjects[subject].state = FIXED;
        return true;
    }

    public boolean fails(int function, boolean on) {
        if (!isFunction(function) || failing[function] == on) {
            return false;
        }
        failing[function] = on;
        return true;
    }

    public int tick(int time) throws IllegalArgumentException {
        if (time < now || time > LAST_TIME) {
            throw new IllegalArgumentException("no time, or one that is over");
        }
        int before = deads.length;
        now = time;
        tryFailedAgain();
        endLongWaits();
        return deads.length - before;
    }

    public int skip(int sender) throws IllegalArgumentException {
        checkSender(sender);
        Sender line = senders[sender];
        int gap = line.leastGap();
        if (!line.cameBehind(gap, now - SKIP_AFTER)) {
            return NONE;
        }
        line.close(gap);
        giveTurns(line);
        return gap;
    }

    public int cut(int sender) throws IllegalArgumentException {
        checkSender(sender);
        return senders[sender].loseHeld();
    }

    public int replay(int sender, int from) throws IllegalArgumentException {
        checkSender(sender);
        checkNumber(from);
        Sender line = senders[sender];
        int again = 0;
        for (int number = from; number <= NUMBERS; number++) {
            Message message = line.get(number);
            if (message != null && message.status == LOST && line.isGap(number)) {
                come(line, message);
                again++;
            }
        }
        return again;
    }

    public int look(int subject, int what) throws IndexOutOfBoundsException {
        if (!isSubject(subject)) {
            throw new IndexOutOfBoundsException("no such subject");
        }
        Subject seen = subjects[subject];
        switch (what) {
            case 0:
                return seen.state;
            case 1:
                return seen.value;
            case 2:
                return seen.acts;
            case 3:
                return waiting.lengthFor(seen);
            default:
                throw new IndexOutOfBoundsException("no such what");
        }
    }

    public int act(int i) {
        return nameAt(acts, i);
    }

    public int dead(int i) {
        return nameAt(deads, i);
    }

    public int of(int sender, int what) {
        if (!isSender(sender)) {
            return NONE;
        }
        Sender line = senders[sender];
        switch (what) {
            case 0:
                return line.leastGap();
            case 1:
                return line.withStatus(HELD);
            case 2:
                return line.withStatus(LOST);
            case 3:
                return line.greatest();
            default:
                return NONE;
        }
    }

    public int count(int what) {
        switch (what) {
            case 0:
                return acts.length;
            case 1:
                return deads.length;
            case 2:
                return now;
            case 3:
                return doubles;
            case 4:
                return waiting.length;
            case 5:
                return failed.length;
            default:
                return NONE;
        }
    }

    private static boolean isSender(int sender) {
        return sender >= 0 && sender < SENDERS;
    }

    private static boolean isSubject(int subject) {
        return subject >= 0 && subject < SUBJECTS;
    }

    private static boolean isFunction(int function) {
        return function >= 0 && function < FUNCTIONS;
    }

    private static boolean isNumber(int number) {
        return number >= 1 && number <= NUMBERS;
    }

    private static boolean isWithin(int value, int greatest) {
        return value >= -greatest && value <= greatest;
    }

    private static void checkSender(int sender) {
        if (!isSender(sender)) {
            throw new IllegalArgumentException("no such sender");
        }
    }

    private static void checkNumber(int number) {
        if (!isNumber(number)) {
            throw new IllegalArgumentException("no such number");
        }
    }

    private static void checkContent(int function, int subject, int v) {
        if (!isFunction(function) || !isSubject(subject) || !isWithin(v, GREATEST_V)) {
            throw new IllegalArgumentException("no such function, subject or value");
        }
    }

    /** Every message comes as one that is held, so that those held and the one that came share one order. */
    private void come(Sender line, Message message) {
        message.status = HELD;
        message.cameAt = now;
        if (message.function == ASK) {
            haveTurn(message, false);
        }
        giveTurns(line);
    }

    private void giveTurns(Sender line) {
        int gap = line.leastGap();
        for (int number = 1; number < gap; number++) {
            Message message = line.get(number);
            if (message != null && message.status == HELD) {
                haveTurn(message, false);
            }
        }
    }

    /** What waited never makes a subject known, so waking those that wait needs no further waking. */
    private void haveTurn(Message message, boolean again) {
        settle(message, again);
        if (message.subject.state == UNKNOWN) {
            return;
        }
        for (int i = 0; i < MOST_WAITING; i++) {
            Message woken = waiting.takeFirstFor(message.subject);
            if (woken == null) {
                return;
            }
            settle(woken, false);
        }
    }

    private void settle(Message message, boolean again) {
        int verdict = verdict(message);
        if (verdict == MUST_WAIT) {
            message.status = WAITS;
            message.waitsSince = now;
            waiting.append(message);
        } else if (verdict != MAY_ACT) {
            message.status = REFUSED;
            message.answer = -verdict;
        } else if (failing[message.function]) {
            failing[message.function] = false;
            fail(message, again);
        } else {
            perform(message);
        }
    }

    private int verdict(Message message) {
        int state = message.subject.state;
        switch (message.function) {
            case NEW:
                return state == UNKNOWN || state == CANCELLED ? MAY_ACT : RULE_KNOWN_ALREADY;
            case CHANGE:
                if (state == OPEN && !isWithin(message.subject.value + message.v, GREATEST_VALUE)) {
                    return RULE_BEYOND;
                }
                return verdictIfOpenIsAsked(state);
            case REPLACE:
            case CANCEL:
                return verdictIfOpenIsAsked(state);
            default:
                return MAY_ACT;
        }
    }

    private int verdictIfOpenIsAsked(int state) {
        switch (state) {
            case UNKNOWN:
                return waiting.length < MOST_WAITING ? MUST_WAIT : RULE_TOO_MANY_WAIT;
            case FIXED:
                return RULE_FIXED;
            case CANCELLED:
                return RULE_CANCELLED;
            default:
                return MAY_ACT;
        }
    }

    private void fail(Message message, boolean again) {
        Line line = again ? deads : failed;
        message.status = again ? DEAD : TRIED_AGAIN;
        line.append(message);
    }

    private void perform(Message message) {
        Subject subject = message.subject;
        switch (message.function) {
            case NEW:
                subject.state = OPEN;
                subject.value = message.v;
                break;
            case REPLACE:
                subject.value = message.v;
                break;
            case CHANGE:
                subject.value += message.v;
                break;
            case CANCEL:
                subject.state = CANCELLED;
                break;
            default:
                message.answer = 10 * subject.value + subject.state;
                break;
        }
        subject.acts++;
        message.status = ACTED;
        acts.append(message);
    }

    /** Only those that failed before this time: what fails meanwhile is for the next one. */
    private void tryFailedAgain() {
        int due = failed.length;
        for (int i = 0; i < due; i++) {
            Message message = failed.take(0);
            if (message != null) {
                haveTurn(message, true);
            }
        }
    }

    /** Time never runs back, so those that wait longest stand first. */
    private void endLongWaits() {
        for (int left = waiting.length; left > 0; left--) {
            Message message = waiting.get(0);
            if (message == null || now - message.waitsSince <= LONGEST_WAIT) {
                return;
            }
            waiting.take(0);
            message.status = DEAD;
            deads.append(message);
        }
    }

    private static int received(Message message) {
        switch (message.status) {
            case ACTED:
                return RECEIVED_ACTED;
            case WAITS:
                return RECEIVED_WAITS;
            case TRIED_AGAIN:
                return RECEIVED_TRIED_AGAIN;
            case REFUSED:
                return message.answer;
            default:
                return RECEIVED_HELD;
        }
    }

    private static int nameAt(Line line, int i) {
        Message message = line.get(i);
        return message == null ? NONE : message.name;
    }

    /** What messages act on. */
    private static final class Subject {
        int state = UNKNOWN;
        int value = 0;
        int acts = 0;
    }

    /** A message that came; its answer is 0 until it asked and acted, or was refused. */
    private static final class Message {
        final int name;
        final int function;
        final Subject subject;
        final int v;
        int status = HELD;
        int answer = 0;
        int cameAt = 0;
        int waitsSince = 0;

        Message(int name, int function, Subject subject, int v) {
            this.name = name;
            this.function = function;
            this.subject = subject;
            this.v = v;
        }
    }

    /** A sender's numbers: the message that came under each, and whether a person skipped it. */
    private static final class Sender {
        private final Message[] messages = new Message[NUMBERS + 1];
        private final boolean[] skipped = new boolean[NUMBERS + 1];

        Message get(int number) {
            return isNumber(number) ? messages[number] : null;
        }

        void put(int number, Message message) {
            if (isNumber(number)) {
                messages[number] = message;
            }
        }

        void close(int number) {
            if (isNumber(number)) {
                skipped[number] = true;
            }
        }

        boolean isGap(int number) {
            return isNumber(number) && !skipped[number] && !isHere(messages[number]);
        }

        /** A lost message counts as one that did not come. */
        private static boolean isHere(Message message) {
            return message != null && message.status != LOST;
        }

        int leastGap() {
            for (int number = 1; number <= NUMBERS; number++) {
                if (isGap(number)) {
                    return number;
                }
            }
            return NUMBERS + 1;
        }

        int greatest() {
            for (int number = NUMBERS; number > 0; number--) {
                if (isHere(get(number))) {
                    return number;
                }
            }
            return 0;
        }

        boolean cameBehind(int gap, int before) {
            for (int number = gap + 1; number <= NUMBERS; number++) {
                Message message = get(number);
                if (isHere(message) && message.cameAt < before) {
                    return true;
                }
            }
            return false;
        }

        int withStatus(int status) {
            int found = 0;
            for (int number = 1; number <= NUMBERS; number++) {
                Message message = get(number);
                if (message != null && message.status == status) {
                    found++;
                }
            }
            return found;
        }

        int loseHeld() {
            int lost = 0;
            for (int number = 1; number <= NUMBERS; number++) {
                Message message = get(number);
                if (message != null && message.status == HELD) {
                    message.status = LOST;
                    lost++;
                }
            }
            return lost;
        }
    }

    /** Messages in the order in which they were appended, with room for every message that there can be. */
    private static final class Line {
        private final Message[] places = new Message[ALL_MESSAGES];
        int length = 0;

        void append(Message message) {
            if (length >= 0 && length < places.length) {
                places[length] = message;
                length++;
            }
        }

        Message get(int i) {
            return i >= 0 && i < length && i < places.length ? places[i] : null;
        }

        Message take(int i) {
            Message taken = get(i);
            if (taken != null) {
                for (int next = i + 1; next < length; next++) {
                    places[next - 1] = places[next];
                }
                length--;
                places[length] = null;
            }
            return taken;
        }

        Message takeFirstFor(Subject subject) {
            for (int i = 0; i < length; i++) {
                Message message = get(i);
                if (message != null && message.subject == subject) {
                    return take(i);
                }
            }
            return null;
        }

        int lengthFor(Subject subject) {
            int found = 0;
            for (int i = 0; i < length; i++) {
                Message message = get(i);
                if (message != null && message.subject == subject) {
                    found++;
                }
            }
            return found;
        }
    }
}
