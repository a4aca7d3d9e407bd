import java.util.NoSuchElementException;

/** Promises 32 to 36: digests and days. */
public final class DigestsTest {
    private static final int NONE = MailPriory.NONE;
    private static final int DIRECT = MailPriory.DIRECT;
    private static final int DIGEST = MailPriory.DIGEST;

    public static void main(String[] args) {
        digestOfToday();
        digestOfTheLowestList();
        lateMailsMakeItAgain();
        lateMailsMakeANewOne();
        aClearingCountsOnceForEachDigest();
        eachCallCountsForItsOwnDigests();
        risingNumbersWhateverCameFirst();
        readersStay();
        wrongArguments();
        passOverTheDays();
        Check.end();
    }

    private static MailPriory house() {
        MailPriory x = new MailPriory();
        for (int list = 0; list < 4; list++) {
            x.list(list);
        }
        x.word(0, 50);
        return x;
    }

    private static void looks(MailPriory x, int list, int day, int edition, int readers,
            int... mails) {
        String name = "the digest of " + list + " on " + day;
        Check.equal(name + ": edition", x.edition(list, day), edition);
        Check.equal(name + ": readers", x.readers(list, day), readers);
        Check.equal(name + ": size", x.size(list, day), mails.length);
        for (int place = 0; place < mails.length; place++) {
            Check.equal(name + ": place " + place, x.digest(list, day, place), mails[place]);
        }
        Check.throwsOf(name + ": behind the last", NoSuchElementException.class,
                () -> x.digest(list, day, mails.length));
        Check.throwsOf(name + ": place -1", NoSuchElementException.class,
                () -> x.digest(list, day, -1));
    }

    private static void digestOfToday() {
        MailPriory x = house();
        x.join(0, 9, DIGEST);
        x.join(0, 10, DIGEST);
        x.join(0, 11, DIRECT);
        looks(x, 0, 0, NONE, 0);
        x.send(9, 0, 0, NONE);
        looks(x, 0, 0, 0, Check.set(10), 0);
        x.send(5, 0, 0, NONE);
        looks(x, 0, 0, 0, Check.set(9, 10), 0, 1);
        x.send(5, 0, 1, NONE);
        x.approve(2);
        looks(x, 0, 0, 0, Check.set(9, 10), 0, 1, 2);
        x.pass(1);
        looks(x, 0, 0, 1, Check.set(9, 10), 0, 1, 2);
        looks(x, 0, 1, NONE, 0);
        x.send(5, 0, 0, NONE);
        looks(x, 0, 1, 0, Check.set(9, 10), 3);
        x.pass(1);
        looks(x, 0, 0, 1, Check.set(9, 10), 0, 1, 2);
        looks(x, 0, 1, 1, Check.set(9, 10), 3);
    }

    private static void digestOfTheLowestList() {
        MailPriory x = house();
        x.nest(3, 1);
        x.nest(3, 2);
        x.join(3, 9, DIGEST);
        x.join(2, 9, DIGEST);
        x.join(0, 9, DIGEST);
        x.join(3, 10, DIGEST);
        x.join(1, 11, DIGEST);
        x.send(5, 3, 0, NONE);
        looks(x, 0, 0, NONE, 0);
        looks(x, 1, 0, 0, Check.set(11), 0);
        looks(x, 2, 0, 0, Check.set(9), 0);
        looks(x, 3, 0, 0, Check.set(10), 0);
        Check.equal("each by one", x.reached(0), Check.set(9, 10, 11));
        x.join(1, 9, DIRECT);
        x.send(5, 3, 0, NONE);
        Check.equal("DIRECT takes it out of the digest", x.size(2, 0), 1);
        Check.equal("into the box", x.mailAt(9, 0), 1);
    }

    private static void lateMailsMakeItAgain() {
        MailPriory x = house();
        x.join(0, 9, DIGEST);
        x.join(0, 10, DIGEST);
        x.send(5, 0, 0, NONE);
        x.send(5, 0, 1, NONE);
        x.send(6, 0, 1, NONE);
        x.pass(2);
        looks(x, 0, 0, 1, Check.set(9, 10), 0);
        x.approve(2);
        looks(x, 0, 0, 2, Check.set(9, 10), 0, 2);
        x.approve(1);
        looks(x, 0, 0, 3, Check.set(9, 10), 0, 1, 2);
        x.pass(1);
        looks(x, 0, 0, 3, Check.set(9, 10), 0, 1, 2);
    }

    private static void lateMailsMakeANewOne() {
        MailPriory x = house();
        x.send(5, 0, 1, NONE);
        x.join(0, 9, DIGEST);
        x.pass(1);
        looks(x, 0, 0, NONE, 0);
        x.approve(0);
        looks(x, 0, 0, 1, Check.set(9), 0);
        x.send(6, 0, 1, NONE);
        x.leave(0, 9);
        x.pass(1);
        x.approve(1);
        looks(x, 0, 1, NONE, 0);
    }

    private static void aClearingCountsOnceForEachDigest() {
        MailPriory x = house();
        x.join(0, 9, DIGEST);
        x.join(1, 9, DIGEST);
        x.join(1, 10, DIGEST);
        x.send(7, 0, 0, NONE);
        x.send(5, 0, 1, NONE);
        x.send(5, 0, 1, NONE);
        x.send(5, 1, 1, NONE);
        x.send(5, 1, 1, NONE);
        x.pass(1);
        x.send(5, 0, 1, NONE);
        x.pass(1);
        x.send(5, 0, 1, NONE);
        x.send(5, 1, 1, NONE);
        x.appeal(2);
        x.vote(2, 1, true);
        x.vote(2, 2, true);
        looks(x, 0, 0, 2, Check.set(9), 0, 1, 2);
        looks(x, 1, 0, 1, Check.set(9, 10), 3, 4);
        looks(x, 0, 1, 1, Check.set(9), 5);
        looks(x, 1, 1, NONE, 0);
        looks(x, 0, 2, 0, Check.set(9), 6);
        looks(x, 1, 2, 0, Check.set(9, 10), 7);
        x.pass(1);
        looks(x, 0, 0, 2, Check.set(9), 0, 1, 2);
        looks(x, 0, 2, 1, Check.set(9), 6);
    }

    private static void eachCallCountsForItsOwnDigests() {
        MailPriory x = house();
        x.join(0, 9, DIGEST);
        x.join(1, 9, DIGEST);
        x.send(5, 0, 1, NONE);
        x.send(5, 1, 1, NONE);
        x.pass(1);
        x.send(5, 0, 1, NONE);
        x.pass(1);
        x.approve(0);
        x.approve(1);
        x.approve(2);
        looks(x, 0, 0, 1, Check.set(9), 0);
        looks(x, 1, 0, 1, Check.set(9), 1);
        looks(x, 0, 1, 1, Check.set(9), 2);
    }

    private static void risingNumbersWhateverCameFirst() {
        MailPriory x = house();
        x.join(0, 9, DIGEST);
        for (int mail = 0; mail < 4; mail++) {
            x.send(mail, 0, 1, NONE);
        }
        x.approve(3);
        x.approve(0);
        x.approve(2);
        looks(x, 0, 0, 0, Check.set(9), 0, 2, 3);
    }

    private static void readersStay() {
        MailPriory x = house();
        x.join(0, 9, DIGEST);
        x.send(5, 0, 0, NONE);
        x.leave(0, 9);
        x.join(0, 10, DIRECT);
        looks(x, 0, 0, 0, Check.set(9), 0);
        x.send(5, 0, 0, NONE);
        looks(x, 0, 0, 0, Check.set(9), 0);
        x.leave(0, 10);
        x.join(0, 10, DIGEST);
        x.send(5, 0, 0, NONE);
        looks(x, 0, 0, 0, Check.set(9, 10), 0, 2);
    }

    private static void wrongArguments() {
        MailPriory x = house();
        x.pass(2);
        for (int list : new int[] {-1, 4, Integer.MAX_VALUE, Integer.MIN_VALUE}) {
            Check.throwsOf("size", IndexOutOfBoundsException.class, () -> x.size(list, 3));
            Check.throwsOf("digest", IndexOutOfBoundsException.class,
                    () -> x.digest(list, 3, -1));
            Check.throwsOf("edition", IndexOutOfBoundsException.class, () -> x.edition(list, 3));
            Check.throwsOf("readers", IndexOutOfBoundsException.class, () -> x.readers(list, 3));
        }
        for (int day : new int[] {-1, 3, 400, Integer.MAX_VALUE, Integer.MIN_VALUE}) {
            Check.throwsOf("size", IllegalArgumentException.class, () -> x.size(0, day));
            Check.throwsOf("digest", IllegalArgumentException.class, () -> x.digest(0, day, -1));
            Check.throwsOf("edition", IllegalArgumentException.class, () -> x.edition(0, day));
            Check.throwsOf("readers", IllegalArgumentException.class, () -> x.readers(0, day));
        }
        looks(x, 3, 2, NONE, 0);
        looks(x, 3, 0, NONE, 0);
    }

    private static void passOverTheDays() {
        MailPriory x = house();
        for (int days : new int[] {0, -1, 51, Integer.MAX_VALUE, Integer.MIN_VALUE}) {
            Check.throwsOf("pass", IllegalArgumentException.class, () -> x.pass(days));
        }
        Check.throwsOf("no day went by", IllegalArgumentException.class, () -> x.size(0, 1));
        x.send(5, 0, 1, NONE);
        x.send(6, 0, 1, NONE);
        Check.equal("two lapse", x.pass(50), 2);
        for (int step = 0; step < 6; step++) {
            Check.equal("none lapses", x.pass(50), 0);
        }
        x.rules(0, 10, 30, false);
        Check.equal("the day 399", x.pass(49), 0);
        x.send(5, 0, 1, NONE);
        Check.throwsOf("401", IllegalStateException.class, () -> x.pass(2));
        Check.throwsOf("days ahead of that", IllegalArgumentException.class, () -> x.pass(51));
        Check.equal("it is the day 399", x.size(0, 399), 0);
        Check.throwsOf("not 400 yet", IllegalArgumentException.class, () -> x.size(0, 400));
        Check.equal("the day 400", x.pass(1), 0);
        Check.equal("it is the day 400", x.size(0, 400), 0);
        Check.throwsOf("no day more", IllegalStateException.class, () -> x.pass(1));
        Check.equal("a day above 400", x.lapses(2), 429);
        Check.equal("held at the end", x.held(), 1);
    }
}
