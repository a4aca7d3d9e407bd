import java.util.ArrayList;
import java.util.List;

/** One call of the face, to be made on an object of the class or on a model of it. */
final class Call {
    final String name;
    private final int[] args;

    Call(String name, int... args) {
        this.name = name;
        this.args = args;
    }

    @Override
    public String toString() {
        StringBuilder told = new StringBuilder(name).append('(');
        for (int k = 0; k < args.length; k++) {
            told.append(k == 0 ? "" : ", ").append(args[k]);
        }
        return told.append(')').toString();
    }

    String on(MailPriory x) {
        try {
            return Integer.toString(lists(x));
        } catch (RuntimeException e) {
            return "throws." + e.getClass().getSimpleName();
        }
    }

    String on(Model x) {
        try {
            return Integer.toString(lists(x));
        } catch (RuntimeException e) {
            return "throws." + e.getClass().getSimpleName();
        }
    }

    private int lists(MailPriory x) {
        switch (name) {
            case "list": return x.list(args[0]);
            case "join": return x.join(args[0], args[1], args[2]);
            case "leave": return x.leave(args[0], args[1]);
            case "mode": return x.mode(args[0], args[1], args[2]);
            case "nest": return Check.toInt(x.nest(args[0], args[1]));
            case "rules": return x.rules(args[0], args[1], args[2], args[3] == 1);
            case "bar": return Check.toInt(x.bar(args[0], args[1]));
            case "word": return x.word(args[0], args[1]);
            case "reaches": return x.reaches(args[0]);
            case "reachesByMembers": return x.reachesByMembers(args[0]);
            case "modeOf": return x.modeOf(args[0], args[1]);
            default: return mails(x);
        }
    }

    private int mails(MailPriory x) {
        switch (name) {
            case "send": return x.send(args[0], args[1], args[2], args[3]);
            case "approve": return x.approve(args[0]);
            case "refuse": return x.refuse(args[0]);
            case "appeal": return x.appeal(args[0]);
            case "vote": return x.vote(args[0], args[1], args[2] == 1);
            case "state": return x.state(args[0]);
            case "cause": return x.cause(args[0]);
            case "score": return x.score(args[0]);
            case "lapses": return x.lapses(args[0]);
            case "jurors": return x.jurors(args[0]);
            case "reached": return x.reached(args[0]);
            case "mails": return x.mails();
            case "held": return x.held();
            default: return persons(x);
        }
    }

    private int persons(MailPriory x) {
        switch (name) {
            case "weight": return x.weight(args[0]);
            case "judged": return x.judged(args[0]);
            case "bounces": return x.bounces(args[0]);
            case "box": return x.box(args[0]);
            case "mailAt": return x.mailAt(args[0], args[1]);
            case "read": return x.read(args[0]);
            case "size": return x.size(args[0], args[1]);
            case "digest": return x.digest(args[0], args[1], args[2]);
            case "edition": return x.edition(args[0], args[1]);
            case "readers": return x.readers(args[0], args[1]);
            case "pass": return x.pass(args[0]);
            default: throw new AssertionError(name);
        }
    }

    private int lists(Model x) {
        switch (name) {
            case "list": return x.list(args[0]);
            case "join": return x.join(args[0], args[1], args[2]);
            case "leave": return x.leave(args[0], args[1]);
            case "mode": return x.mode(args[0], args[1], args[2]);
            case "nest": return x.nest(args[0], args[1]);
            case "rules": return x.rules(args[0], args[1], args[2], args[3] == 1);
            case "bar": return x.bar(args[0], args[1]);
            case "word": return x.word(args[0], args[1]);
            case "reaches": return x.reaches(args[0]);
            case "reachesByMembers": return x.reaches(args[0]);
            case "modeOf": return x.modeOf(args[0], args[1]);
            default: return mails(x);
        }
    }

    private int mails(Model x) {
        switch (name) {
            case "send": return x.send(args[0], args[1], args[2], args[3]);
            case "approve": return x.approve(args[0]);
            case "refuse": return x.refuse(args[0]);
            case "appeal": return x.appeal(args[0]);
            case "vote": return x.vote(args[0], args[1], args[2] == 1);
            case "state": return x.stateOf(args[0]);
            case "cause": return x.cause(args[0]);
            case "score": return x.score(args[0]);
            case "lapses": return x.lapses(args[0]);
            case "jurors": return x.jurors(args[0]);
            case "reached": return x.reached(args[0]);
            case "mails": return x.mails();
            case "held": return x.held();
            default: return persons(x);
        }
    }

    private int persons(Model x) {
        switch (name) {
            case "weight": return x.weight(args[0]);
            case "judged": return x.judged(args[0]);
            case "bounces": return x.bounces(args[0]);
            case "box": return x.box(args[0]);
            case "mailAt": return x.mailAt(args[0], args[1]);
            case "read": return x.read(args[0]);
            case "size": return x.size(args[0], args[1]);
            case "digest": return x.digest(args[0], args[1], args[2]);
            case "edition": return x.edition(args[0], args[1]);
            case "readers": return x.readers(args[0], args[1]);
            case "pass": return x.pass(args[0]);
            default: throw new AssertionError(name);
        }
    }

    /** All that can be asked of an object with so many lists and mails, up to the day today. */
    static List<Call> questions(int lists, int mails, int today) {
        List<Call> all = new ArrayList<>();
        all.add(new Call("mails"));
        all.add(new Call("held"));
        askOfMails(all, mails);
        askOfPersons(all);
        for (int list = 0; list <= lists; list++) {
            askOfList(all, list, today);
        }
        return all;
    }

    private static void askOfMails(List<Call> all, int mails) {
        for (int mail = 0; mail <= mails; mail++) {
            for (String name : new String[] {
                "state", "cause", "score", "lapses", "jurors", "reached"}) {
                all.add(new Call(name, mail));
            }
        }
    }

    private static void askOfPersons(List<Call> all) {
        for (int person = 0; person < 16; person++) {
            for (String name : new String[] {"weight", "judged", "bounces", "box"}) {
                all.add(new Call(name, person));
            }
            for (int place = 0; place <= 10; place++) {
                all.add(new Call("mailAt", person, place));
            }
        }
    }

    private static void askOfList(List<Call> all, int list, int today) {
        all.add(new Call("reaches", list));
        all.add(new Call("reachesByMembers", list));
        for (int person = 0; person < 16; person++) {
            all.add(new Call("modeOf", list, person));
        }
        for (int day = 0; day <= today + 1; day++) {
            all.add(new Call("size", list, day));
            all.add(new Call("edition", list, day));
            all.add(new Call("readers", list, day));
            for (int place = 0; place < 4; place++) {
                all.add(new Call("digest", list, day, place));
            }
        }
    }
}
