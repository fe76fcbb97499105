import java.lang.reflect.Field;

/**
 * Rule 4: a value is not added up beyond -1000000 .. 1000000. 96 messages of at most 1000 never come near it, so this
 * test alone reaches inside the object and sets a value; where the inside is built otherwise, it looks at nothing.
 */
public final class RuleFour extends Checks {
    private static boolean found = true;

    private static Field field(Object of, String name) throws ReflectiveOperationException {
        Field field = of.getClass().getDeclaredField(name);
        field.setAccessible(true);
        return field;
    }

    /** Subject 0 is OPEN, with a value that no message could give it. */
    private static MessageActs with(int value) {
        MessageActs x = new MessageActs();
        x.receive(0, 1, NEW, 0, 0);
        try {
            Object subject = ((Object[]) field(x, "subjects").get(x))[0];
            field(subject, "value").setInt(subject, value);
        } catch (ReflectiveOperationException | ClassCastException e) {
            found = false;
        }
        found = found && x.look(0, 1) == value;
        return x;
    }

    private static void dueChange(int value, int v, int answer) {
        MessageActs x = with(value);
        if (!found) {
            return;
        }
        due(value + " changed by " + v, x.receive(0, 2, CHANGE, 0, v), answer);
        due("status", x.status(0, 2), answer == 1 ? ACTED : REFUSED);
        due("answer", x.answer(0, 2), answer == 1 ? 0 : -4);
        dueSubject("changed", x, 0, OPEN, answer == 1 ? value + v : value);
        due("acts", x.count(0), answer == 1 ? 2 : 1);
    }

    private static void theBounds() {
        dueChange(999999, 1, 1);
        dueChange(1000000, 0, 1);
        dueChange(1000000, 1, -4);
        dueChange(999001, 1000, -4);
        dueChange(999000, 1000, 1);
        dueChange(-999999, -1, 1);
        dueChange(-1000000, 0, 1);
        dueChange(-1000000, -1, -4);
        dueChange(-999001, -1000, -4);
        dueChange(-999000, -1000, 1);
    }

    private static void otherRulesComeFirst() {
        MessageActs x = with(1000000);
        if (!found) {
            return;
        }
        x.fails(CHANGE, true);
        due("refused", x.receive(0, 2, CHANGE, 0, 1), -4);
        due("a refusal is no act", x.fails(CHANGE, true), false);
        due("REPLACE is within", x.receive(0, 3, REPLACE, 0, 1), 1);
        MessageActs y = with(1000000);
        y.receive(0, 2, ASK, 0, 0);
        due("asked", y.answer(0, 2), 10000001);
        y.point(0);
        due("FIXED", y.receive(0, 3, CHANGE, 0, 1), -2);
    }

    public static void main(String[] args) {
        theBounds();
        otherRulesComeFirst();
        if (!found) {
            System.out.println("the inside is built otherwise: nothing was looked at");
        }
        end();
    }
}
