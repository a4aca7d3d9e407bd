import java.util.ArrayList;
import java.util.List;
import java.util.SortedMap;
import java.util.TreeMap;

/**
 * Long runs of mixed calls, compared call by call with the model, then asked for everything: on new
 * objects with the same run each time, since an object is used for 512 calls only.
 */
public final class ModelTest {
    private static final int RUNS = 400;
    private static final int CALLS_OF_ONE_OBJECT = 512;
    private static final int CHANGES = 230;

    private static final String[] DUE_TO_MEET = {
        "BARRED", "STRANGER", "SCORE", "a bounce", "a third bounce", "a clearing",
        "a condemnation", "a digest made again", "a lapse", "a mail cleared",
        "a new digest of an old day", "a second late mail of a digest in a call",
        "an answer to a mail that reached", "an answer to an own mail", "another mail cleared",
        "another mail cleared, with its appeal", "no lapse under appeal",
    };

    private final Dice dice;
    private final int senders;
    private final int heavyWords;
    private final int daysAtMost;
    private final Model model = new Model();
    private final List<Call> calls = new ArrayList<>();
    private final List<String> answers = new ArrayList<>();
    private int lists = 0;
    private int today = 0;

    private ModelTest(int seed) {
        dice = new Dice(seed);
        senders = 2 + dice.below(14);
        heavyWords = dice.below(5);
        daysAtMost = dice.below(6) == 0 ? 50 : 1 + dice.below(4);
    }

    public static void main(String[] args) {
        SortedMap<String, Integer> met = new TreeMap<>();
        for (int run = 0; run < RUNS; run++) {
            ModelTest test = new ModelTest(run);
            test.makeCalls();
            test.compare(run);
            test.model.met.forEach((what, times) -> met.merge(what, times, Integer::sum));
        }
        for (String what : DUE_TO_MEET) {
            Check.isTrue("the runs meet " + what + " often", met.getOrDefault(what, 0) >= 10);
        }
        Check.end();
    }

    private void makeCalls() {
        int atFirst = 3 + dice.below(8);
        for (int list = 0; list < atFirst; list++) {
            make("list", dice.below(16));
        }
        for (int member = 0; member < 25; member++) {
            make("join", dice.below(lists), dice.below(16), dice.below(2));
        }
        for (int part = 0; part < 6; part++) {
            make("nest", dice.below(lists), dice.below(lists));
        }
        for (int word = 0; word < 5; word++) {
            make("word", word, dice.below(20) - 4);
        }
        while (calls.size() < CHANGES) {
            makeAnyCall();
        }
    }

    private void make(String name, int... args) {
        if (dice.below(30) == 0 && args.length > 0) {
            int[] edges = {-1, -2, 10, 16, 20, 80, 400, 1048576, 2147483647, -2147483648};
            args[dice.below(args.length)] = edges[dice.below(edges.length)];
        }
        Call call = new Call(name, args);
        String answer = call.on(model);
        calls.add(call);
        answers.add(answer);
        if (name.equals("list") && !answer.startsWith("throws")) {
            lists++;
        }
        if (name.equals("pass") && !answer.startsWith("throws")) {
            today += args[0];
        }
    }

    private void makeAnyCall() {
        int kind = dice.below(100);
        if (kind < 40) {
            make("send", dice.below(senders), dice.below(lists), words(), answered());
        } else if (kind < 55) {
            makeVote();
        } else if (kind < 65) {
            make("appeal", heldMail());
        } else if (kind < 70) {
            make(dice.below(3) == 0 ? "refuse" : "approve", heldMail());
        } else if (kind < 76) {
            make("pass", 1 + dice.below(daysAtMost));
        } else if (kind < 80) {
            make("read", dice.below(16));
        } else if (kind < 83) {
            make("rules", dice.below(lists), 1 + dice.below(12), 1 + dice.below(30),
                    dice.below(3) / 2);
        } else {
            makeChangeOfLists(dice.below(6));
        }
    }

    private void makeChangeOfLists(int kind) {
        switch (kind) {
            case 0: make("join", dice.below(lists), dice.below(16), dice.below(2)); break;
            case 1: make("leave", dice.below(lists), dice.below(16)); break;
            case 2: make("mode", dice.below(lists), dice.below(16), dice.below(2)); break;
            case 3: make("nest", dice.below(lists), dice.below(lists)); break;
            case 4: make("bar", dice.below(lists), dice.below(senders)); break;
            default: make("word", dice.below(20), dice.below(30) - 10); break;
        }
    }

    private int words() {
        int words = 0;
        for (int k = 0; k < heavyWords; k++) {
            words |= 1 << dice.below(6);
        }
        return words;
    }

    private int answered() {
        return model.mails() == 0 || dice.below(3) > 0 ? -1 : dice.below(model.mails());
    }

    private int heldMail() {
        for (int tried = 0; tried < 20 && model.mails() > 0; tried++) {
            int mail = dice.below(model.mails());
            if (model.stateOf(mail) == 1) {
                return mail;
            }
        }
        return dice.below(80);
    }

    private void makeVote() {
        for (int tried = 0; tried < 30 && model.mails() > 0; tried++) {
            int mail = dice.below(model.mails());
            int person = dice.below(16);
            if ((model.jurors(mail) >> person & 1) == 1) {
                make("vote", mail, person, dice.below(2));
                return;
            }
        }
        make("vote", heldMail(), dice.below(16), dice.below(2));
    }

    private void compare(int run) {
        List<Call> questions = Call.questions(lists, model.mails(), Math.min(today, 60));
        int asked = 0;
        while (asked < questions.size()) {
            MailPriory x = new MailPriory();
            if (!sameCallByCall(run, x)) {
                return;
            }
            for (int call = calls.size(); call < CALLS_OF_ONE_OBJECT; call++) {
                if (asked < questions.size()) {
                    Call question = questions.get(asked);
                    same("run " + run + ", at its end: " + question, question.on(x),
                            question.on(model));
                    asked++;
                }
            }
        }
    }

    private boolean sameCallByCall(int run, MailPriory x) {
        for (int call = 0; call < calls.size(); call++) {
            String got = calls.get(call).on(x);
            if (!got.equals(answers.get(call))) {
                same("run " + run + ", call " + call + ": " + calls.get(call), got,
                        answers.get(call));
                return false;
            }
        }
        return true;
    }

    private static void same(String what, String got, String due) {
        if (!got.equals(due)) {
            System.out.println(what + " answered " + got + ", the model " + due);
        }
        Check.isTrue(what, got.equals(due));
    }

    /** The same throws for the same seed, on every machine. */
    private static final class Dice {
        private long state;

        Dice(int seed) {
            state = seed * 7919L + 17;
        }

        int below(int bound) {
            state = state * 6364136223846793005L + 1442695040888963407L;
            return (int) ((state >>> 33) % bound);
        }
    }
}
