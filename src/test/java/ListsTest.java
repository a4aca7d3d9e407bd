/** Promises 1 to 12: a new object, lists and members. */
public final class ListsTest {
    private static final int NONE = MailPriory.NONE;
    private static final int DIRECT = MailPriory.DIRECT;
    private static final int DIGEST = MailPriory.DIGEST;

    public static void main(String[] args) {
        newObject();
        listIsNumbered();
        joinAndLeave();
        modeChanges();
        nestTogglesAndStaysWithoutCircles();
        nestReachesThroughSharedParts();
        rulesAnswerTheLimitBefore();
        rulesEdges();
        barToggles();
        wordWeights();
        reachesFollowsChanges();
        modeOfTakesDirectFirst();
        Check.end();
    }

    private static void newObject() {
        MailPriory x = new MailPriory();
        Check.equal("mails at first", x.mails(), 0);
        Check.equal("held at first", x.held(), 0);
        for (int person = 0; person < 16; person++) {
            Check.equal("weight at first", x.weight(person), 0);
            Check.equal("judged at first", x.judged(person), 0);
            Check.equal("bounces at first", x.bounces(person), 0);
            Check.equal("box at first", x.box(person), 0);
        }
        Check.throwsOf("reaches without lists", IndexOutOfBoundsException.class,
                () -> x.reaches(0));
        Check.throwsOf("state without mails", IndexOutOfBoundsException.class, () -> x.state(0));
        for (int word = 0; word < 20; word++) {
            Check.equal("word weight at first", x.word(word, 0), 0);
        }
        Check.equal("a first list", x.list(0), 0);
        Check.equal("no digest on the day 0", x.edition(0, 0), NONE);
        Check.throwsOf("the day 1 is not yet", IllegalArgumentException.class,
                () -> x.edition(0, 1));
    }

    private static void listIsNumbered() {
        MailPriory x = new MailPriory();
        Check.throwsOf("lister -1", IndexOutOfBoundsException.class, () -> x.list(-1));
        Check.throwsOf("lister 16", IndexOutOfBoundsException.class, () -> x.list(16));
        for (int list = 0; list < 10; list++) {
            Check.equal("number of a list", x.list(15 - list), list);
            Check.equal("a new list reaches nobody", x.reaches(list), 0);
        }
        Check.throwsOf("an eleventh list", IllegalStateException.class, () -> x.list(0));
        Check.throwsOf("person ahead of full", IndexOutOfBoundsException.class, () -> x.list(16));
        Check.throwsOf("no list 10", IndexOutOfBoundsException.class, () -> x.reaches(10));
    }

    private static void joinAndLeave() {
        MailPriory x = new MailPriory();
        x.list(1);
        Check.equal("the first member", x.join(0, 0, DIRECT), 1);
        Check.equal("the second member", x.join(0, 15, DIGEST), 2);
        Check.throwsOf("join again", IllegalStateException.class, () -> x.join(0, 0, DIGEST));
        Check.throwsOf("mode ahead of member", IllegalArgumentException.class,
                () -> x.join(0, 0, 2));
        Check.throwsOf("mode -1", IllegalArgumentException.class, () -> x.join(0, 1, NONE));
        Check.throwsOf("person ahead of mode", IndexOutOfBoundsException.class,
                () -> x.join(0, 16, 2));
        Check.throwsOf("list ahead of mode", IndexOutOfBoundsException.class,
                () -> x.join(1, 0, 2));
        Check.throwsOf("list -1", IndexOutOfBoundsException.class, () -> x.join(-1, 0, DIRECT));
        Check.throwsOf("person -1", IndexOutOfBoundsException.class, () -> x.join(0, -1, DIRECT));
        Check.equal("the mode stays", x.modeOf(0, 0), DIRECT);
        Check.equal("leave tells the mode", x.leave(0, 15), DIGEST);
        Check.throwsOf("leave again", IllegalStateException.class, () -> x.leave(0, 15));
        Check.equal("leave tells the other mode", x.leave(0, 0), DIRECT);
        Check.equal("nobody is left", x.reaches(0), 0);
        Check.equal("one comes back", x.join(0, 0, DIGEST), 1);
        Check.equal("with the new mode", x.modeOf(0, 0), DIGEST);
        Check.throwsOf("leave list 1", IndexOutOfBoundsException.class, () -> x.leave(1, 0));
        Check.throwsOf("leave list -1", IndexOutOfBoundsException.class, () -> x.leave(-1, 0));
        Check.throwsOf("leave person 16", IndexOutOfBoundsException.class, () -> x.leave(0, 16));
        Check.throwsOf("leave person -1", IndexOutOfBoundsException.class, () -> x.leave(0, -1));
        for (int person = 1; person < 16; person++) {
            Check.equal("all persons", x.join(0, person, DIRECT), person + 1);
        }
    }

    private static void modeChanges() {
        MailPriory x = new MailPriory();
        x.list(1);
        x.join(0, 3, DIRECT);
        Check.equal("mode before", x.mode(0, 3, DIGEST), DIRECT);
        Check.equal("mode then", x.modeOf(0, 3), DIGEST);
        Check.equal("the same mode", x.mode(0, 3, DIGEST), DIGEST);
        Check.equal("back again", x.mode(0, 3, DIRECT), DIGEST);
        Check.equal("mode at last", x.modeOf(0, 3), DIRECT);
        Check.throwsOf("no member", IllegalStateException.class, () -> x.mode(0, 4, DIRECT));
        Check.throwsOf("mode ahead of member", IllegalArgumentException.class,
                () -> x.mode(0, 4, 2));
        Check.throwsOf("mode -1", IllegalArgumentException.class, () -> x.mode(0, 3, -1));
        Check.throwsOf("person ahead of mode", IndexOutOfBoundsException.class,
                () -> x.mode(0, 16, 2));
        Check.throwsOf("person -1", IndexOutOfBoundsException.class, () -> x.mode(0, -1, DIRECT));
        Check.throwsOf("list ahead of mode", IndexOutOfBoundsException.class,
                () -> x.mode(1, 3, 2));
        Check.throwsOf("list -1", IndexOutOfBoundsException.class, () -> x.mode(-1, 3, DIRECT));
        Check.equal("nobody came in", x.reaches(0), Check.set(3));
    }

    private static void nestTogglesAndStaysWithoutCircles() {
        MailPriory x = new MailPriory();
        for (int list = 0; list < 4; list++) {
            x.list(list);
            x.join(list, list, DIRECT);
        }
        Check.throwsOf("a list in itself", IllegalArgumentException.class,
                () -> Check.toInt(x.nest(2, 2)));
        Check.isTrue("3 in 1", x.nest(1, 3));
        Check.isTrue("1 in 0", x.nest(0, 1));
        Check.throwsOf("a circle of two", IllegalArgumentException.class,
                () -> Check.toInt(x.nest(3, 1)));
        Check.throwsOf("a circle of three", IllegalArgumentException.class,
                () -> Check.toInt(x.nest(3, 0)));
        Check.equal("3 has no parts", x.reaches(3), Check.set(3));
        Check.isTrue("3 in 0 too", x.nest(0, 3));
        Check.isTrue("1 is out of 0", !x.nest(0, 1));
        Check.equal("0 has 3 by itself", x.reaches(0), Check.set(0, 3));
        Check.isTrue("0 in 1 goes now", x.nest(1, 0));
        Check.equal("1 has all but 2", x.reaches(1), Check.set(0, 1, 3));
        Check.throwsOf("a part -1", IndexOutOfBoundsException.class,
                () -> Check.toInt(x.nest(0, -1)));
        Check.throwsOf("a part 4", IndexOutOfBoundsException.class,
                () -> Check.toInt(x.nest(0, 4)));
        Check.throwsOf("a list -1", IndexOutOfBoundsException.class,
                () -> Check.toInt(x.nest(-1, 0)));
        Check.throwsOf("a list 4", IndexOutOfBoundsException.class,
                () -> Check.toInt(x.nest(4, 0)));
        Check.throwsOf("neither of them", IndexOutOfBoundsException.class,
                () -> Check.toInt(x.nest(4, 4)));
    }

    private static void nestReachesThroughSharedParts() {
        MailPriory x = new MailPriory();
        for (int list = 0; list < 10; list++) {
            x.list(0);
            x.join(list, list, DIGEST);
        }
        for (int outer = 9; outer > 0; outer--) {
            for (int part = 0; part < outer; part++) {
                Check.isTrue("each in all above", x.nest(outer, part));
            }
        }
        for (int list = 0; list < 10; list++) {
            Check.equal("all below, down", x.reaches(list), (2 << list) - 1);
            Check.equal("all below, up", x.reachesByMembers(list), (2 << list) - 1);
        }
        Check.isTrue("one of many ways less", !x.nest(9, 0));
        Check.equal("there are others", x.reaches(9), 1023);
        Check.equal("there are others, up", x.reachesByMembers(9), 1023);
    }

    private static void rulesAnswerTheLimitBefore() {
        MailPriory x = new MailPriory();
        x.list(1);
        x.list(2);
        Check.equal("the limit at first", x.rules(0, 1, 30, true), 10);
        Check.equal("the limit then", x.rules(0, 200, 1, false), 1);
        Check.equal("the highest", x.rules(0, 7, 7, false), 200);
        Check.equal("another list", x.rules(1, 3, 3, false), 10);
        Check.throwsOf("limit 0", IllegalArgumentException.class, () -> x.rules(0, 0, 7, false));
        Check.throwsOf("limit 201", IllegalArgumentException.class,
                () -> x.rules(0, 201, 7, true));
        Check.throwsOf("patience 0", IllegalArgumentException.class,
                () -> x.rules(0, 9, 0, true));
        Check.throwsOf("patience 31", IllegalArgumentException.class,
                () -> x.rules(0, 9, 31, true));
        Check.throwsOf("list 2 first", IndexOutOfBoundsException.class,
                () -> x.rules(2, 0, 0, false));
        Check.throwsOf("list -1", IndexOutOfBoundsException.class,
                () -> x.rules(-1, 9, 9, false));
        Check.equal("nothing changed by them", x.rules(0, 8, 8, false), 7);
    }

    private static void rulesEdges() {
        MailPriory x = new MailPriory();
        x.list(1);
        x.word(0, 9);
        x.word(1, 1);
        x.send(0, 0, 1, NONE);
        Check.equal("9 is below the limit at first", x.cause(0), NONE);
        x.send(2, 0, 3, NONE);
        Check.equal("10 is at the limit at first", x.cause(1), MailPriory.SCORE);
        Check.equal("the patience at first", x.lapses(1), 7);
        x.rules(0, 11, 30, false);
        x.send(3, 0, 3, NONE);
        Check.equal("10 is below 11", x.cause(2), NONE);
        x.rules(0, 9, 30, false);
        x.send(4, 0, 1, NONE);
        Check.equal("9 is at the limit 9", x.cause(3), MailPriory.SCORE);
        Check.equal("the patience set", x.lapses(3), 30);
        Check.equal("the earlier mail keeps its own", x.lapses(1), 7);
        x.rules(0, 200, 30, true);
        x.send(5, 0, 0, NONE);
        Check.equal("closed", x.cause(4), MailPriory.STRANGER);
        x.rules(0, 200, 30, false);
        x.send(5, 0, 0, NONE);
        Check.equal("not closed any more", x.cause(5), NONE);
    }

    private static void barToggles() {
        MailPriory x = new MailPriory();
        x.list(1);
        x.list(1);
        Check.isTrue("bar", x.bar(0, 15));
        Check.isTrue("bar another", x.bar(0, 0));
        Check.isTrue("no more", !x.bar(0, 0));
        x.send(15, 0, 0, NONE);
        x.send(0, 0, 0, NONE);
        x.send(15, 1, 0, NONE);
        Check.equal("barred", x.cause(0), MailPriory.BARRED);
        Check.equal("not barred", x.cause(1), NONE);
        Check.equal("not barred by the other list", x.cause(2), NONE);
        x.nest(1, 0);
        x.send(15, 1, 0, NONE);
        Check.equal("a part bars for itself alone", x.cause(3), NONE);
        Check.throwsOf("person 16", IndexOutOfBoundsException.class,
                () -> Check.toInt(x.bar(0, 16)));
        Check.throwsOf("person -1", IndexOutOfBoundsException.class,
                () -> Check.toInt(x.bar(0, -1)));
        Check.throwsOf("list 2", IndexOutOfBoundsException.class,
                () -> Check.toInt(x.bar(2, 0)));
        Check.throwsOf("list -1", IndexOutOfBoundsException.class,
                () -> Check.toInt(x.bar(-1, 0)));
        Check.isTrue("15 is let in", !x.bar(0, 15));
    }

    private static void wordWeights() {
        MailPriory x = new MailPriory();
        Check.equal("the lowest weight", x.word(0, -20), 0);
        Check.equal("the highest weight", x.word(19, 50), 0);
        Check.throwsOf("weight -21", IllegalArgumentException.class, () -> x.word(0, -21));
        Check.throwsOf("weight 51", IllegalArgumentException.class, () -> x.word(19, 51));
        Check.throwsOf("word ahead of weight", IndexOutOfBoundsException.class,
                () -> x.word(20, 51));
        Check.throwsOf("word -1", IndexOutOfBoundsException.class, () -> x.word(-1, 0));
        Check.equal("the lowest stays", x.word(0, 1), -20);
        Check.equal("the highest stays", x.word(19, 2), 50);
        Check.equal("and so on", x.word(19, 3), 2);
    }

    private static void reachesFollowsChanges() {
        MailPriory x = new MailPriory();
        for (int list = 0; list < 3; list++) {
            x.list(14);
        }
        x.join(2, 9, DIRECT);
        x.join(2, 8, DIGEST);
        x.join(0, 8, DIGEST);
        x.nest(1, 2);
        x.nest(0, 1);
        sameBothWays(x, 0, Check.set(8, 9));
        sameBothWays(x, 1, Check.set(8, 9));
        sameBothWays(x, 2, Check.set(8, 9));
        x.leave(2, 9);
        x.leave(2, 8);
        sameBothWays(x, 0, Check.set(8));
        sameBothWays(x, 1, 0);
        Check.throwsOf("reaches -1", IndexOutOfBoundsException.class, () -> x.reaches(-1));
        Check.throwsOf("reaches 3", IndexOutOfBoundsException.class, () -> x.reaches(3));
        Check.throwsOf("up -1", IndexOutOfBoundsException.class, () -> x.reachesByMembers(-1));
        Check.throwsOf("up 3", IndexOutOfBoundsException.class, () -> x.reachesByMembers(3));
    }

    private static void sameBothWays(MailPriory x, int list, int due) {
        Check.equal("reaches " + list, x.reaches(list), due);
        Check.equal("reachesByMembers " + list, x.reachesByMembers(list), due);
    }

    private static void modeOfTakesDirectFirst() {
        MailPriory x = new MailPriory();
        for (int list = 0; list < 3; list++) {
            x.list(14);
        }
        x.nest(0, 1);
        x.nest(1, 2);
        x.join(0, 5, DIGEST);
        x.join(2, 5, DIRECT);
        Check.equal("DIRECT by a part of a part", x.modeOf(0, 5), DIRECT);
        Check.equal("DIRECT by a part", x.modeOf(1, 5), DIRECT);
        x.mode(2, 5, DIGEST);
        Check.equal("DIGEST by all", x.modeOf(0, 5), DIGEST);
        x.nest(1, 2);
        Check.equal("not reached", x.modeOf(1, 5), NONE);
        Check.equal("reached by itself", x.modeOf(0, 5), DIGEST);
        Check.equal("nor another person", x.modeOf(0, 4), NONE);
        Check.throwsOf("list 3", IndexOutOfBoundsException.class, () -> x.modeOf(3, 5));
        Check.throwsOf("list -1", IndexOutOfBoundsException.class, () -> x.modeOf(-1, 5));
        Check.throwsOf("person 16", IndexOutOfBoundsException.class, () -> x.modeOf(0, 16));
        Check.throwsOf("person -1", IndexOutOfBoundsException.class, () -> x.modeOf(0, -1));
    }
}
