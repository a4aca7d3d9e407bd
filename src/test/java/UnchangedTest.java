import java.util.ArrayList;
import java.util.List;

/**
 * Each wrong call throws the exception that is listed first, and changes nothing: an object on which
 * it was made answers all later calls as one on which it was not.
 */
public final class UnchangedTest {
    private static final String INDEX = "throws.IndexOutOfBoundsException";
    private static final String ARGUMENT = "throws.IllegalArgumentException";
    private static final String STATE = "throws.IllegalStateException";
    private static final String PLACE = "throws.NoSuchElementException";

    private static final int CALLS_OF_ONE_OBJECT = 512;
    private static final int LATER_CALLS = 300;
    private static final int NO = -1;
    private static final int LOW = Integer.MIN_VALUE;
    private static final int HIGH = Integer.MAX_VALUE;

    private final List<Call> before = new ArrayList<>();
    private final List<Call> after = new ArrayList<>();
    private final int lists;
    private final int mails;
    private final int today;

    private UnchangedTest(List<Call> before) {
        this.before.addAll(before);
        MailPriory x = new MailPriory();
        int listsMade = 0;
        int daysGone = 0;
        for (Call call : before) {
            String answer = call.on(x);
            listsMade += call.name.equals("list") ? 1 : 0;
            daysGone += call.name.equals("pass") ? 1 : 0;
            Check.isTrue("no throw by " + call + ", but " + answer, !answer.startsWith("throws"));
        }
        lists = listsMade;
        mails = x.mails();
        today = daysGone;
        List<Call> later = laterCalls();
        after.addAll(later.subList(0, Math.min(later.size(), LATER_CALLS)));
    }

    public static void main(String[] args) {
        UnchangedTest busy = new UnchangedTest(busyHouse());
        busy.wrongCallsOfLists();
        busy.wrongCallsOfMails();
        busy.wrongCallsOfDays();
        UnchangedTest full = new UnchangedTest(fullHouse());
        full.throwsAndLeaves(STATE, "list", 3);
        full.throwsAndLeaves(STATE, "send", 0, 0, 0, NO);
        UnchangedTest old = new UnchangedTest(lastDay());
        old.throwsAndLeaves(STATE, "pass", 1);
        old.throwsAndLeaves(STATE, "pass", 50);
        Check.end();
    }

    private static void add(List<Call> calls, String name, int... args) {
        calls.add(new Call(name, args));
    }

    /** Boxes, bounces, digests of both kinds of days, holds of each cause, appeals half judged. */
    private static List<Call> busyHouse() {
        List<Call> run = new ArrayList<>();
        for (int list = 0; list < 5; list++) {
            add(run, "list", list);
        }
        add(run, "nest", 0, 1);
        add(run, "nest", 1, 2);
        add(run, "join", 0, 8, 0);
        add(run, "join", 0, 9, 1);
        add(run, "join", 2, 10, 1);
        add(run, "join", 3, 8, 0);
        add(run, "word", 0, 50);
        add(run, "word", 1, -20);
        add(run, "bar", 3, 12);
        add(run, "rules", 4, 5, 3, 1);
        for (int mail = 0; mail < 11; mail++) {
            add(run, "send", 11, 0, 2, NO);
        }
        add(run, "send", 12, 0, 1, NO);
        add(run, "send", 12, 1, 1, NO);
        add(run, "send", 12, 3, 0, NO);
        add(run, "send", 13, 4, 0, NO);
        add(run, "send", 13, 0, 1, NO);
        add(run, "refuse", 15);
        add(run, "pass", 1);
        add(run, "send", 12, 0, 1, NO);
        add(run, "send", 9, 0, 0, 0);
        add(run, "appeal", 11);
        add(run, "appeal", 12);
        add(run, "vote", 11, 1, 1);
        add(run, "vote", 12, 0, 0);
        add(run, "vote", 12, 3, 1);
        add(run, "read", 8);
        return run;
    }

    private static List<Call> fullHouse() {
        List<Call> run = new ArrayList<>();
        for (int list = 0; list < 10; list++) {
            add(run, "list", list);
        }
        for (int mail = 0; mail < 80; mail++) {
            add(run, "send", mail % 16, mail % 10, 0, NO);
        }
        return run;
    }

    private static List<Call> lastDay() {
        List<Call> run = new ArrayList<>();
        add(run, "list", 0);
        for (int step = 0; step < 8; step++) {
            add(run, "pass", 50);
        }
        add(run, "send", 0, 0, 0, NO);
        return run;
    }

    /** What is not told by questions shows in what these do. */
    private List<Call> laterCalls() {
        List<Call> run = new ArrayList<>();
        for (int list = 0; list < lists; list++) {
            for (int sender = 7; sender < 14; sender++) {
                add(run, "send", sender, list, 1 << sender - 7, sender - 8);
            }
        }
        add(run, "vote", 11, 2, 1);
        add(run, "vote", 11, 3, 1);
        add(run, "vote", 12, 4, 0);
        for (int mail = 0; mail < mails; mail++) {
            add(run, "appeal", mail);
            add(run, "approve", mail);
        }
        for (int list = 0; list < lists; list++) {
            add(run, "rules", list, 10, 10, 0);
            for (int person = 0; person < 16; person++) {
                add(run, "bar", list, person);
            }
            for (int part = 0; part < lists; part++) {
                add(run, "nest", list, part);
            }
        }
        for (int word = 0; word < 20; word++) {
            add(run, "word", word, 0);
        }
        add(run, "list", 5);
        add(run, "pass", 2);
        add(run, "pass", 5);
        return run;
    }

    private void throwsAndLeaves(String due, String name, int... args) {
        Call wrong = new Call(name, args);
        String got = wrong.on(afterThe(before));
        Check.isTrue(wrong + " " + got + ", due is " + due, got.equals(due));
        compare(wrong, new ArrayList<>());
        compare(wrong, after);
    }

    /** Asks both for everything behind the later calls, by as many new objects as that takes. */
    private void compare(Call wrong, List<Call> later) {
        List<Call> questions = Call.questions(lists, mails, today);
        int room = CALLS_OF_ONE_OBJECT - before.size() - 1 - later.size();
        Check.isTrue("there is room for questions", room > 0);
        for (int asked = 0; asked < questions.size() && room > 0; asked += room) {
            MailPriory touched = afterThe(before);
            MailPriory untouched = afterThe(before);
            wrong.on(touched);
            List<Call> rest = new ArrayList<>(later);
            rest.addAll(questions.subList(asked, Math.min(asked + room, questions.size())));
            for (Call call : rest) {
                String got = call.on(touched);
                String due = call.on(untouched);
                Check.isTrue("behind " + wrong + ": " + call + " " + got + ", due is " + due,
                        got.equals(due));
            }
        }
    }

    private static MailPriory afterThe(List<Call> calls) {
        MailPriory x = new MailPriory();
        for (Call call : calls) {
            call.on(x);
        }
        return x;
    }

    private void wrongCallsOfLists() {
        throwsAndLeaves(INDEX, "list", 16);
        throwsAndLeaves(INDEX, "list", LOW);
        throwsAndLeaves(INDEX, "join", 5, 8, 2);
        throwsAndLeaves(INDEX, "join", 0, 16, 2);
        throwsAndLeaves(ARGUMENT, "join", 0, 8, 2);
        throwsAndLeaves(ARGUMENT, "join", 0, 0, NO);
        throwsAndLeaves(STATE, "join", 0, 8, 1);
        throwsAndLeaves(STATE, "join", 0, 9, 0);
        throwsAndLeaves(INDEX, "leave", 5, 8);
        throwsAndLeaves(INDEX, "leave", 0, HIGH);
        throwsAndLeaves(STATE, "leave", 1, 8);
        throwsAndLeaves(INDEX, "mode", NO, 8, 2);
        throwsAndLeaves(INDEX, "mode", 0, 16, 2);
        throwsAndLeaves(ARGUMENT, "mode", 0, 8, 2);
        throwsAndLeaves(ARGUMENT, "mode", 0, 0, 2);
        throwsAndLeaves(STATE, "mode", 1, 8, 1);
        throwsAndLeaves(INDEX, "nest", 5, 5);
        throwsAndLeaves(INDEX, "nest", 0, NO);
        throwsAndLeaves(ARGUMENT, "nest", 0, 0);
        throwsAndLeaves(ARGUMENT, "nest", 2, 0);
        throwsAndLeaves(INDEX, "rules", 5, 0, 0, 0);
        throwsAndLeaves(ARGUMENT, "rules", 0, 0, 9, 1);
        throwsAndLeaves(ARGUMENT, "rules", 0, 9, 31, 1);
        throwsAndLeaves(ARGUMENT, "rules", 0, HIGH, LOW, 1);
        throwsAndLeaves(INDEX, "bar", 5, 12);
        throwsAndLeaves(INDEX, "bar", 3, 16);
        throwsAndLeaves(INDEX, "word", 20, 51);
        throwsAndLeaves(INDEX, "word", NO, 0);
        throwsAndLeaves(ARGUMENT, "word", 0, 51);
        throwsAndLeaves(ARGUMENT, "word", 1, -21);
        throwsAndLeaves(INDEX, "reaches", 5);
        throwsAndLeaves(INDEX, "reachesByMembers", NO);
        throwsAndLeaves(INDEX, "modeOf", 5, 8);
        throwsAndLeaves(INDEX, "modeOf", 0, 16);
    }

    private void wrongCallsOfMails() {
        throwsAndLeaves(INDEX, "send", 16, 0, 0, NO);
        throwsAndLeaves(INDEX, "send", 12, 5, -1, NO);
        throwsAndLeaves(INDEX, "send", 12, 0, -1, 18);
        throwsAndLeaves(INDEX, "send", 12, 0, 0, -2);
        throwsAndLeaves(ARGUMENT, "send", 12, 0, -1, 0);
        throwsAndLeaves(ARGUMENT, "send", 12, 0, 1048576, NO);
        throwsAndLeaves(INDEX, "approve", 18);
        throwsAndLeaves(STATE, "approve", 0);
        throwsAndLeaves(STATE, "approve", 11);
        throwsAndLeaves(STATE, "approve", 15);
        throwsAndLeaves(INDEX, "refuse", NO);
        throwsAndLeaves(STATE, "refuse", 0);
        throwsAndLeaves(STATE, "refuse", 11);
        throwsAndLeaves(STATE, "refuse", 15);
        throwsAndLeaves(INDEX, "appeal", 18);
        throwsAndLeaves(STATE, "appeal", 0);
        throwsAndLeaves(STATE, "appeal", 12);
        throwsAndLeaves(STATE, "appeal", 15);
        throwsAndLeaves(INDEX, "vote", 18, 1, 1);
        throwsAndLeaves(INDEX, "vote", 0, 16, 1);
        throwsAndLeaves(STATE, "vote", 0, 1, 1);
        throwsAndLeaves(STATE, "vote", 11, 1, 1);
        throwsAndLeaves(STATE, "vote", 11, 1, 0);
        throwsAndLeaves(STATE, "vote", 11, 4, 1);
        throwsAndLeaves(STATE, "vote", 16, 1, 1);
        for (String name : new String[] {
            "state", "cause", "score", "lapses", "jurors", "reached"}) {
            throwsAndLeaves(INDEX, name, NO);
            throwsAndLeaves(INDEX, name, 18);
            throwsAndLeaves(INDEX, name, 80);
        }
    }

    private void wrongCallsOfDays() {
        for (String name : new String[] {"weight", "judged", "bounces", "box", "read"}) {
            throwsAndLeaves(INDEX, name, NO);
            throwsAndLeaves(INDEX, name, 16);
        }
        throwsAndLeaves(INDEX, "mailAt", 16, 0);
        throwsAndLeaves(INDEX, "mailAt", 8, 9);
        throwsAndLeaves(INDEX, "mailAt", 8, NO);
        for (String name : new String[] {"size", "edition", "readers"}) {
            throwsAndLeaves(INDEX, name, 5, 2);
            throwsAndLeaves(ARGUMENT, name, 0, 2);
            throwsAndLeaves(ARGUMENT, name, 0, NO);
        }
        throwsAndLeaves(INDEX, "digest", NO, 2, NO);
        throwsAndLeaves(ARGUMENT, "digest", 0, 2, NO);
        throwsAndLeaves(PLACE, "digest", 0, 0, NO);
        throwsAndLeaves(PLACE, "digest", 0, 0, 11);
        throwsAndLeaves(PLACE, "digest", 4, 0, 0);
        throwsAndLeaves(ARGUMENT, "pass", 0);
        throwsAndLeaves(ARGUMENT, "pass", 51);
        throwsAndLeaves(ARGUMENT, "pass", LOW);
    }
}
