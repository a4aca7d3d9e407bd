/** Promises 26 to 31: weights, votes, bounces and boxes. */
public final class PersonsTest {
    private static final int NONE = MailPriory.NONE;
    private static final int DIRECT = MailPriory.DIRECT;
    private static final int DIGEST = MailPriory.DIGEST;

    public static void main(String[] args) {
        boxKeepsItsOrder();
        boxFillsAndBounces();
        thirdBounceChangesAllModes();
        bounceChangesNobodyElse();
        clearingFillsTheBoxMidway();
        wrongPersons();
        Check.end();
    }

    private static void boxKeepsItsOrder() {
        MailPriory x = new MailPriory();
        x.list(0);
        x.join(0, 4, DIRECT);
        Check.equal("nothing to read", x.read(4), NONE);
        x.send(5, 0, 0, NONE);
        x.send(4, 0, 0, NONE);
        x.send(6, 0, 0, NONE);
        Check.equal("not the own mail", x.box(4), 2);
        Check.equal("first", x.mailAt(4, 0), 0);
        Check.equal("second", x.mailAt(4, 1), 2);
        Check.throwsOf("no third", IndexOutOfBoundsException.class, () -> x.mailAt(4, 2));
        Check.throwsOf("place -1", IndexOutOfBoundsException.class, () -> x.mailAt(4, -1));
        Check.equal("read the first", x.read(4), 0);
        Check.equal("one is left", x.box(4), 1);
        Check.equal("it moved up", x.mailAt(4, 0), 2);
        Check.throwsOf("the read one is gone", IndexOutOfBoundsException.class,
                () -> x.mailAt(4, 1));
        Check.equal("reading takes nothing from reached", x.reached(0), Check.set(4));
        Check.equal("read the second", x.read(4), 2);
        Check.equal("all is read", x.read(4), NONE);
        Check.equal("an empty box", x.box(4), 0);
    }

    private static void boxFillsAndBounces() {
        MailPriory x = new MailPriory();
        x.list(0);
        x.join(0, 4, DIRECT);
        for (int mail = 0; mail < 10; mail++) {
            x.send(mail % 4, 0, 0, NONE);
            Check.equal("each comes in", x.box(4), mail + 1);
        }
        Check.equal("no bounce by ten", x.bounces(4), 0);
        x.send(5, 0, 0, NONE);
        Check.equal("the eleventh bounces", x.bounces(4), 1);
        Check.equal("it reaches nobody", x.reached(10), 0);
        Check.equal("it passed though", x.state(10), MailPriory.PASSED);
        Check.equal("ten are in", x.box(4), 10);
        Check.equal("the last is the tenth", x.mailAt(4, 9), 9);
        Check.equal("read", x.read(4), 0);
        x.send(6, 0, 0, NONE);
        Check.equal("room again", x.mailAt(4, 9), 11);
        Check.equal("reading takes no bounce back", x.bounces(4), 1);
        Check.equal("one of ten", x.mailAt(4, 0), 1);
    }

    private static MailPriory fullBoxOf4() {
        MailPriory x = new MailPriory();
        for (int list = 0; list < 4; list++) {
            x.list(list);
        }
        x.join(0, 4, DIRECT);
        x.join(1, 4, DIRECT);
        x.join(2, 4, DIGEST);
        for (int mail = 0; mail < 10; mail++) {
            x.send(6 + mail, 0, 0, NONE);
        }
        return x;
    }

    private static void thirdBounceChangesAllModes() {
        MailPriory x = fullBoxOf4();
        x.join(3, 5, DIRECT);
        x.send(6, 1, 0, NONE);
        x.send(7, 0, 0, NONE);
        Check.equal("two bounces", x.bounces(4), 2);
        Check.equal("no change of modes yet", x.modeOf(0, 4), DIRECT);
        x.send(8, 1, 0, NONE);
        Check.equal("none by the third", x.bounces(4), 0);
        Check.equal("the third reaches not by digest either", x.reached(12), 0);
        Check.equal("no digest by it", x.size(1, 0), 0);
        Check.equal("DIGEST in that list", x.modeOf(1, 4), DIGEST);
        Check.equal("DIGEST in another", x.modeOf(0, 4), DIGEST);
        Check.equal("DIGEST as before", x.modeOf(2, 4), DIGEST);
        Check.equal("no member by that", x.modeOf(3, 4), NONE);
        Check.equal("nobody else", x.modeOf(3, 5), DIRECT);
        x.send(9, 1, 0, NONE);
        Check.equal("the next comes by the digest", x.reached(13), Check.set(4));
        Check.equal("into the digest", x.digest(1, 0, 0), 13);
        Check.equal("the box is full as before", x.box(4), 10);
        x.mode(0, 4, DIRECT);
        x.send(10, 0, 0, NONE);
        Check.equal("and it begins again", x.bounces(4), 1);
    }

    private static void bounceChangesNobodyElse() {
        MailPriory x = fullBoxOf4();
        x.join(0, 3, DIRECT);
        x.join(0, 5, DIRECT);
        x.send(15, 0, 0, NONE);
        Check.equal("those below and above are reached", x.reached(10), Check.set(3, 5));
        Check.equal("no bounce of 3", x.bounces(3), 0);
        Check.equal("no bounce of 5", x.bounces(5), 0);
        Check.equal("one of 4", x.bounces(4), 1);
    }

    private static void clearingFillsTheBoxMidway() {
        MailPriory x = fullBoxOf4();
        x.word(0, 50);
        for (int mail = 10; mail < 16; mail++) {
            x.send(5, 0, 1, NONE);
        }
        x.read(4);
        x.read(4);
        x.appeal(12);
        x.vote(12, 1, true);
        x.vote(12, 2, true);
        Check.equal("first come the lowest", x.mailAt(4, 8), 10);
        Check.equal("the second too", x.mailAt(4, 9), 11);
        Check.equal("the third bounces", x.reached(12), 0);
        Check.equal("the fifth bounces", x.reached(14), 0);
        Check.equal("the sixth comes by the digest", x.reached(15), Check.set(4));
        Check.equal("alone in it", x.size(0, 0), 1);
        Check.equal("that one", x.digest(0, 0, 0), 15);
        Check.equal("bounces at last", x.bounces(4), 0);
    }

    private static void wrongPersons() {
        MailPriory x = new MailPriory();
        for (int person : new int[] {-1, 16, Integer.MIN_VALUE, Integer.MAX_VALUE}) {
            Check.throwsOf("weight", IndexOutOfBoundsException.class, () -> x.weight(person));
            Check.throwsOf("judged", IndexOutOfBoundsException.class, () -> x.judged(person));
            Check.throwsOf("bounces", IndexOutOfBoundsException.class, () -> x.bounces(person));
            Check.throwsOf("box", IndexOutOfBoundsException.class, () -> x.box(person));
            Check.throwsOf("mailAt", IndexOutOfBoundsException.class, () -> x.mailAt(person, 0));
            Check.throwsOf("read", IndexOutOfBoundsException.class, () -> x.read(person));
        }
        Check.throwsOf("an empty box", IndexOutOfBoundsException.class, () -> x.mailAt(15, 0));
    }
}
