/** Promises 13 to 25: mails, their scores, holds and appeals. */
public final class MailsTest {
    private static final int NONE = MailPriory.NONE;
    private static final int DIRECT = MailPriory.DIRECT;
    private static final int DIGEST = MailPriory.DIGEST;
    private static final int PASSED = MailPriory.PASSED;
    private static final int HELD = MailPriory.HELD;
    private static final int LAPSED = MailPriory.LAPSED;
    private static final int CONDEMNED = MailPriory.CONDEMNED;
    private static final int BARRED = MailPriory.BARRED;
    private static final int STRANGER = MailPriory.STRANGER;
    private static final int SCORE = MailPriory.SCORE;

    public static void main(String[] args) {
        sendRefusesWrongArguments();
        sendCountsUpTo80();
        scoreOfWordsAndHaste();
        scoreOfAnswers();
        causesInTheirOrder();
        strangersAreKnownThroughParts();
        approvePasses();
        approveReachesThoseOfNow();
        refuseCondemns();
        appealChoosesTheLeastJudged();
        appealLeavesOutSenderAndLister();
        appealIsOnce();
        voteAsksForJurors();
        voteCondemns();
        twoVotesAgainstAreEnough();
        voteClearsAllHeldForScore();
        voteClearsAMailHeldForAnotherCause();
        weightStopsAt100();
        holdsLapse();
        allPersonsAreReached();
        Check.end();
    }

    /** Lists 0 to 3 of the listers 0 to 3; the person 8 reads the list 0 DIRECT. */
    private static MailPriory house() {
        MailPriory x = new MailPriory();
        for (int list = 0; list < 4; list++) {
            x.list(list);
        }
        x.join(0, 8, DIRECT);
        x.word(0, 50);
        return x;
    }

    private static void sendRefusesWrongArguments() {
        MailPriory x = house();
        Check.throwsOf("sender -1", IndexOutOfBoundsException.class, () -> x.send(-1, 0, 0, NONE));
        Check.throwsOf("sender 16", IndexOutOfBoundsException.class, () -> x.send(16, 0, 0, NONE));
        Check.throwsOf("list -1", IndexOutOfBoundsException.class, () -> x.send(0, -1, 0, NONE));
        Check.throwsOf("list 4", IndexOutOfBoundsException.class, () -> x.send(0, 4, 0, NONE));
        Check.throwsOf("no mail 0", IndexOutOfBoundsException.class, () -> x.send(0, 0, 0, 0));
        Check.throwsOf("mail -2", IndexOutOfBoundsException.class, () -> x.send(0, 0, 0, -2));
        Check.throwsOf("mail ahead of words", IndexOutOfBoundsException.class,
                () -> x.send(0, 0, -1, 0));
        Check.throwsOf("words -1", IllegalArgumentException.class, () -> x.send(0, 0, -1, NONE));
        Check.throwsOf("words 1048576", IllegalArgumentException.class,
                () -> x.send(0, 0, 1048576, NONE));
        Check.equal("none was sent", x.mails(), 0);
        Check.equal("all words", x.send(0, 0, 1048575, NONE), 0);
        Check.equal("only the first has a weight", x.score(0), 50);
        Check.throwsOf("no mail 1 yet", IndexOutOfBoundsException.class, () -> x.send(0, 0, 0, 1));
        Check.equal("no failed call counts as haste", x.send(0, 0, 0, NONE), 1);
        Check.equal("one mail earlier", x.score(1), 1);
    }

    private static void sendCountsUpTo80() {
        MailPriory x = house();
        for (int mail = 0; mail < 80; mail++) {
            Check.equal("number of a mail", x.send(mail % 16, 1, 0, NONE), mail);
            Check.equal("mails", x.mails(), mail + 1);
        }
        Check.throwsOf("mail 80", IllegalStateException.class, () -> x.send(0, 1, 0, NONE));
        Check.throwsOf("words ahead of that", IllegalArgumentException.class,
                () -> x.send(0, 1, -1, NONE));
        Check.throwsOf("answers ahead of that", IndexOutOfBoundsException.class,
                () -> x.send(0, 1, 0, 80));
        Check.equal("mails at last", x.mails(), 80);
    }

    private static void scoreOfWordsAndHaste() {
        MailPriory x = house();
        x.word(0, 3);
        x.word(7, -20);
        x.word(19, 4);
        x.send(5, 1, Check.set(0, 19), NONE);
        Check.equal("two words", x.score(0), 7);
        x.send(5, 2, Check.set(0, 1), NONE);
        Check.equal("one mail earlier, of another list", x.score(1), 4);
        x.send(6, 1, Check.set(7), NONE);
        Check.equal("another sender, a light word", x.score(2), -20);
        x.word(0, 50);
        x.send(5, 1, 1, NONE);
        Check.equal("held mails count as haste too", x.score(3), 52);
        x.send(5, 1, 0, NONE);
        Check.equal("three mails earlier", x.score(4), 3);
        Check.equal("an old score stays", x.score(0), 7);
        x.pass(1);
        x.send(5, 1, 1, NONE);
        Check.equal("a new day", x.score(5), 50);
        Check.throwsOf("score -1", IndexOutOfBoundsException.class, () -> x.score(-1));
        Check.throwsOf("score 6", IndexOutOfBoundsException.class, () -> x.score(6));
    }

    private static void scoreOfAnswers() {
        MailPriory x = house();
        x.join(0, 9, DIGEST);
        x.send(5, 0, 0, NONE);
        x.send(8, 0, 0, 0);
        Check.equal("it came into the box of the sender", x.score(1), -3);
        x.send(9, 0, 0, 0);
        Check.equal("it came into a digest of the sender", x.score(2), -3);
        x.send(7, 0, 0, 0);
        Check.equal("it did not reach the sender", x.score(3), 0);
        x.send(5, 1, 0, 0);
        Check.equal("it is by the sender", x.score(4), -2);
        x.bar(0, 6);
        x.send(6, 0, 0, NONE);
        x.send(8, 1, 0, 5);
        Check.equal("it is held", x.score(6), 1);
        x.send(6, 1, 0, 5);
        Check.equal("it is held, and by the sender", x.score(7), -2);
        x.read(8);
        x.leave(0, 8);
        x.pass(1);
        x.send(8, 0, 0, 0);
        Check.equal("it has reached the sender for good", x.score(8), -3);
        x.send(9, 0, 0, NONE);
        Check.equal("no answer", x.score(9), 0);
    }

    private static void causesInTheirOrder() {
        MailPriory x = house();
        x.rules(0, 5, 7, true);
        x.bar(0, 4);
        x.bar(0, 8);
        x.send(4, 0, 1, NONE);
        x.send(5, 0, 1, NONE);
        x.join(0, 5, DIGEST);
        x.send(5, 0, 1, NONE);
        x.send(8, 0, 0, NONE);
        x.bar(0, 8);
        x.send(8, 0, 0, NONE);
        Check.equal("BARRED ahead of all", x.cause(0), BARRED);
        Check.equal("STRANGER ahead of SCORE", x.cause(1), STRANGER);
        Check.equal("SCORE", x.cause(2), SCORE);
        Check.equal("BARRED, a member", x.cause(3), BARRED);
        Check.equal("no cause", x.cause(4), NONE);
        for (int mail = 0; mail < 4; mail++) {
            Check.equal("held by that", x.state(mail), HELD);
            Check.equal("it reaches nobody", x.reached(mail), 0);
        }
        Check.equal("passed at once", x.state(4), PASSED);
        Check.equal("four are held", x.held(), 4);
        x.approve(0);
        x.refuse(1);
        Check.equal("the cause stays when it passes", x.cause(0), BARRED);
        Check.equal("the cause stays when it does not", x.cause(1), STRANGER);
        Check.equal("two are held", x.held(), 2);
        Check.throwsOf("cause -1", IndexOutOfBoundsException.class, () -> x.cause(-1));
        Check.throwsOf("cause 5", IndexOutOfBoundsException.class, () -> x.cause(5));
        Check.throwsOf("state -1", IndexOutOfBoundsException.class, () -> x.state(-1));
        Check.throwsOf("state 5", IndexOutOfBoundsException.class, () -> x.state(5));
    }

    private static void strangersAreKnownThroughParts() {
        MailPriory x = house();
        x.nest(1, 0);
        x.rules(1, 200, 7, true);
        x.send(8, 1, 0, NONE);
        x.send(1, 1, 0, NONE);
        x.nest(1, 0);
        x.send(8, 1, 0, NONE);
        Check.equal("a member of a part", x.cause(0), NONE);
        Check.equal("the lister is no member", x.cause(1), STRANGER);
        Check.equal("the part is out", x.cause(2), STRANGER);
    }

    private static void approvePasses() {
        MailPriory x = house();
        x.join(0, 9, DIGEST);
        x.join(0, 5, DIRECT);
        x.send(5, 0, 1, NONE);
        Check.equal("it lapses", x.lapses(0), 7);
        Check.equal("approve answers whom it reaches", x.approve(0), Check.set(8, 9));
        Check.equal("state", x.state(0), PASSED);
        Check.equal("reached", x.reached(0), Check.set(8, 9));
        Check.equal("it lapses no more", x.lapses(0), NONE);
        Check.equal("not to its sender", x.box(5), 0);
        Check.equal("box", x.mailAt(8, 0), 0);
        Check.equal("digest", x.digest(0, 0, 0), 0);
        Check.throwsOf("approve again", IllegalStateException.class, () -> x.approve(0));
        Check.throwsOf("refuse what passed", IllegalStateException.class, () -> x.refuse(0));
        Check.throwsOf("approve -1", IndexOutOfBoundsException.class, () -> x.approve(-1));
        Check.throwsOf("approve 1", IndexOutOfBoundsException.class, () -> x.approve(1));
        Check.throwsOf("reached -1", IndexOutOfBoundsException.class, () -> x.reached(-1));
        Check.throwsOf("reached 1", IndexOutOfBoundsException.class, () -> x.reached(1));
        x.send(5, 0, 0, NONE);
        Check.throwsOf("approve what passed at once", IllegalStateException.class,
                () -> x.approve(1));
        x.send(5, 0, 1, NONE);
        x.appeal(2);
        Check.throwsOf("approve under appeal", IllegalStateException.class, () -> x.approve(2));
        Check.equal("it is held still", x.state(2), HELD);
        Check.equal("one copy a mail", x.box(8), 2);
    }

    private static void approveReachesThoseOfNow() {
        MailPriory x = house();
        x.send(5, 0, 1, NONE);
        x.leave(0, 8);
        x.join(0, 3, DIRECT);
        x.nest(0, 1);
        x.join(1, 12, DIGEST);
        x.pass(2);
        Check.equal("the members of now", x.approve(0), Check.set(3, 12));
        Check.equal("not those of then", x.box(8), 0);
        Check.equal("the digest of then", x.size(1, 0), 1);
        Check.equal("not of now", x.size(1, 2), 0);
    }

    private static void refuseCondemns() {
        MailPriory x = house();
        x.word(1, 7);
        x.send(5, 0, 3, NONE);
        x.send(5, 0, 3, NONE);
        Check.equal("refuse answers the score", x.refuse(0), 57);
        Check.equal("state", x.state(0), CONDEMNED);
        Check.equal("lapses", x.lapses(0), NONE);
        Check.equal("the weight stays", x.weight(5), 0);
        Check.equal("reached", x.reached(0), 0);
        Check.throwsOf("refuse again", IllegalStateException.class, () -> x.refuse(0));
        Check.throwsOf("approve then", IllegalStateException.class, () -> x.approve(0));
        Check.throwsOf("appeal then", IllegalStateException.class, () -> x.appeal(0));
        Check.throwsOf("refuse -1", IndexOutOfBoundsException.class, () -> x.refuse(-1));
        Check.throwsOf("refuse 2", IndexOutOfBoundsException.class, () -> x.refuse(2));
        x.appeal(1);
        Check.throwsOf("refuse under appeal", IllegalStateException.class, () -> x.refuse(1));
        Check.equal("it is held still", x.held(), 1);
    }

    private static void appealChoosesTheLeastJudged() {
        MailPriory x = new MailPriory();
        for (int lister = 9; lister >= 3; lister--) {
            x.list(lister);
        }
        x.list(5);
        x.word(0, 50);
        for (int mail = 0; mail < 6; mail++) {
            x.send(12, 0, 1, NONE);
        }
        Check.equal("the lowest ones", x.appeal(0), Check.set(3, 4, 5));
        Check.equal("being chosen is not judging", x.appeal(1), Check.set(3, 4, 5));
        x.vote(0, 3, true);
        x.vote(0, 4, false);
        Check.equal("the others first", x.appeal(2), Check.set(5, 6, 7));
        x.vote(1, 3, true);
        x.vote(2, 6, true);
        x.vote(2, 5, false);
        x.vote(2, 7, false);
        Check.equal("judged twice", x.judged(3), 2);
        Check.equal("8 has not, then the lowest of those who have once", x.appeal(3),
                Check.set(8, 4, 5));
        x.vote(3, 8, true);
        Check.equal("all have but 3 once", x.appeal(4), Check.set(4, 5, 6));
    }

    private static void appealLeavesOutSenderAndLister() {
        MailPriory x = new MailPriory();
        x.list(2);
        x.list(3);
        x.list(4);
        x.list(2);
        x.word(0, 50);
        x.send(9, 0, 1, NONE);
        x.send(3, 0, 1, NONE);
        Check.throwsOf("two listers are left", IllegalStateException.class, () -> x.appeal(0));
        Check.equal("no appeal by that", x.lapses(0), 7);
        x.list(15);
        Check.equal("not the lister, by another list neither", x.appeal(0), Check.set(3, 4, 15));
        Check.throwsOf("the sender is one", IllegalStateException.class, () -> x.appeal(1));
        x.list(0);
        Check.equal("not the sender", x.appeal(1), Check.set(0, 4, 15));
        x.send(9, 1, 1, NONE);
        Check.equal("another list's mail", x.appeal(2), Check.set(0, 2, 4));
    }

    private static void appealIsOnce() {
        MailPriory x = house();
        x.send(9, 0, 1, NONE);
        x.send(9, 0, 0, NONE);
        x.send(9, 0, 1, NONE);
        Check.equal("no jurors before", x.jurors(0), 0);
        Check.equal("appeal", x.appeal(0), Check.set(1, 2, 3));
        Check.equal("jurors", x.jurors(0), Check.set(1, 2, 3));
        Check.throwsOf("appeal again", IllegalStateException.class, () -> x.appeal(0));
        Check.throwsOf("appeal for what passed", IllegalStateException.class, () -> x.appeal(1));
        Check.equal("no lapsing under appeal", x.lapses(0), NONE);
        Check.equal("lapsing without", x.lapses(2), 7);
        x.pass(7);
        Check.throwsOf("appeal for what lapsed", IllegalStateException.class, () -> x.appeal(2));
        Check.throwsOf("appeal -1", IndexOutOfBoundsException.class, () -> x.appeal(-1));
        Check.throwsOf("appeal 3", IndexOutOfBoundsException.class, () -> x.appeal(3));
        Check.throwsOf("jurors -1", IndexOutOfBoundsException.class, () -> x.jurors(-1));
        Check.throwsOf("jurors 3", IndexOutOfBoundsException.class, () -> x.jurors(3));
        Check.throwsOf("lapses -1", IndexOutOfBoundsException.class, () -> x.lapses(-1));
        Check.throwsOf("lapses 3", IndexOutOfBoundsException.class, () -> x.lapses(3));
    }

    private static void voteAsksForJurors() {
        MailPriory x = house();
        x.send(9, 0, 1, NONE);
        Check.throwsOf("no appeal", IllegalStateException.class, () -> x.vote(0, 1, true));
        x.appeal(0);
        Check.throwsOf("no juror", IllegalStateException.class, () -> x.vote(0, 0, true));
        Check.throwsOf("the sender", IllegalStateException.class, () -> x.vote(0, 9, true));
        Check.throwsOf("person -1", IndexOutOfBoundsException.class, () -> x.vote(0, -1, true));
        Check.throwsOf("person 16", IndexOutOfBoundsException.class, () -> x.vote(0, 16, true));
        Check.throwsOf("mail -1", IndexOutOfBoundsException.class, () -> x.vote(-1, 1, true));
        Check.throwsOf("mail 1", IndexOutOfBoundsException.class, () -> x.vote(1, 1, true));
        Check.equal("nobody has judged by that", x.judged(0) + x.judged(1) + x.judged(9), 0);
        Check.equal("a vote", x.vote(0, 2, true), HELD);
        Check.equal("the others are asked", x.jurors(0), Check.set(1, 3));
        Check.throwsOf("twice", IllegalStateException.class, () -> x.vote(0, 2, true));
        Check.throwsOf("the other way", IllegalStateException.class, () -> x.vote(0, 2, false));
        Check.equal("judged once", x.judged(2), 1);
        Check.equal("a second vote", x.vote(0, 3, true), PASSED);
        Check.throwsOf("it is decided", IllegalStateException.class, () -> x.vote(0, 1, true));
        Check.equal("nobody is asked then", x.jurors(0), 0);
        Check.equal("1 has not judged", x.judged(1), 0);
        Check.equal("it reached its reader", x.reached(0), Check.set(8));
    }

    private static void voteCondemns() {
        MailPriory x = house();
        x.send(9, 0, 1, NONE);
        x.send(9, 0, 1, NONE);
        x.appeal(0);
        Check.equal("against", x.vote(0, 1, false), HELD);
        Check.equal("for", x.vote(0, 2, true), HELD);
        Check.equal("against again", x.vote(0, 3, false), CONDEMNED);
        Check.equal("state", x.state(0), CONDEMNED);
        Check.equal("no juror any more", x.jurors(0), 0);
        Check.equal("lapses", x.lapses(0), NONE);
        Check.equal("the weight grows", x.weight(9), 5);
        Check.equal("the other mail is held", x.state(1), HELD);
        Check.equal("one is held", x.held(), 1);
        x.send(9, 0, 0, NONE);
        Check.equal("the score has the weight", x.score(2), 7);
        Check.throwsOf("approve what the court condemned", IllegalStateException.class,
                () -> x.approve(0));
    }

    private static void twoVotesAgainstAreEnough() {
        MailPriory x = house();
        x.send(9, 0, 1, NONE);
        x.appeal(0);
        x.vote(0, 3, false);
        Check.equal("against again", x.vote(0, 1, false), CONDEMNED);
        Check.equal("the third is not asked", x.jurors(0), 0);
        Check.throwsOf("nor may vote", IllegalStateException.class, () -> x.vote(0, 2, true));
        Check.equal("nor has judged", x.judged(2), 0);
        Check.equal("it stays condemned", x.state(0), CONDEMNED);
    }

    private static void voteClearsAllHeldForScore() {
        MailPriory x = house();
        x.send(9, 0, 1, NONE);
        x.send(9, 1, 1, NONE);
        x.send(7, 0, 1, NONE);
        x.bar(0, 9);
        x.send(9, 0, 1, NONE);
        x.bar(0, 9);
        x.send(9, 0, 1, NONE);
        x.send(9, 0, 1, NONE);
        x.send(9, 0, 1, NONE);
        x.refuse(5);
        x.appeal(1);
        x.appeal(4);
        x.vote(1, 0, false);
        x.vote(4, 1, true);
        x.join(1, 10, DIRECT);
        x.join(1, 8, DIRECT);
        Check.equal("held before", x.held(), 6);
        Check.equal("cleared", x.vote(4, 2, true), PASSED);
        Check.equal("the weight", x.weight(9), -10);
        Check.equal("held for SCORE, not appealed", x.state(0), PASSED);
        Check.equal("held for SCORE, appealed", x.state(1), PASSED);
        Check.equal("of another sender", x.state(2), HELD);
        Check.equal("held for BARRED", x.state(3), HELD);
        Check.equal("refused before", x.state(5), CONDEMNED);
        Check.equal("the last one", x.state(6), PASSED);
        Check.equal("held then", x.held(), 2);
        Check.equal("the other appeal is over", x.jurors(1), 0);
        Check.throwsOf("no vote in it", IllegalStateException.class, () -> x.vote(1, 2, false));
        Check.equal("by rising numbers", x.box(8), 4);
        Check.equal("first", x.mailAt(8, 0), 0);
        Check.equal("second", x.mailAt(8, 1), 1);
        Check.equal("third", x.mailAt(8, 2), 4);
        Check.equal("fourth", x.mailAt(8, 3), 6);
        Check.equal("each by its own list", x.reached(1), Check.set(8, 10));
        x.pass(1);
        x.send(9, 0, 1, NONE);
        Check.equal("the next score has the weight", x.score(7), 40);
        Check.equal("and is held", x.state(7), HELD);
        x.appeal(7);
        x.vote(7, 3, false);
        x.vote(7, 1, true);
        x.vote(7, 2, false);
        Check.equal("-10 and 5", x.weight(9), -5);
    }

    private static void voteClearsAMailHeldForAnotherCause() {
        MailPriory x = house();
        x.rules(0, 10, 7, true);
        x.send(9, 1, 1, NONE);
        x.send(9, 0, 0, NONE);
        x.send(9, 0, 0, NONE);
        x.send(9, 2, 1, NONE);
        x.appeal(1);
        x.vote(1, 1, true);
        Check.equal("a STRANGER is cleared", x.vote(1, 3, true), PASSED);
        Check.equal("that mail came", x.mailAt(8, 0), 1);
        Check.equal("another one of a STRANGER stays", x.state(2), HELD);
        Check.equal("held for SCORE before", x.state(0), PASSED);
        Check.equal("held for SCORE behind", x.state(3), PASSED);
    }

    private static void weightStopsAt100() {
        MailPriory x = house();
        for (int round = 0; round < 21; round++) {
            x.send(9, 0, 1, NONE);
            x.appeal(round);
            int jurors = x.jurors(round);
            int first = Integer.numberOfTrailingZeros(jurors);
            x.vote(round, first, false);
            x.vote(round, Integer.numberOfTrailingZeros(x.jurors(round)), false);
            Check.equal("5 more, to 100 at most", x.weight(9), Math.min(100, 5 * (round + 1)));
        }
    }

    private static void holdsLapse() {
        MailPriory x = house();
        x.pass(3);
        x.rules(0, 10, 2, false);
        x.send(5, 0, 1, NONE);
        x.rules(0, 10, 9, false);
        x.send(6, 0, 1, NONE);
        x.send(7, 0, 1, NONE);
        x.send(7, 0, 0, NONE);
        x.appeal(2);
        Check.equal("the patience then", x.lapses(0), 5);
        Check.equal("the patience of its own", x.lapses(1), 12);
        Check.equal("not under appeal", x.lapses(2), NONE);
        Check.equal("not what passed", x.lapses(3), NONE);
        Check.equal("the day before", x.pass(1), 0);
        Check.equal("held the day before", x.state(0), HELD);
        Check.equal("the day", x.pass(1), 1);
        Check.equal("lapsed", x.state(0), LAPSED);
        Check.equal("lapses no more", x.lapses(0), NONE);
        Check.throwsOf("approve what lapsed", IllegalStateException.class, () -> x.approve(0));
        Check.throwsOf("refuse what lapsed", IllegalStateException.class, () -> x.refuse(0));
        Check.equal("each lapses once", x.pass(50), 1);
        Check.equal("the appealed one stays", x.state(2), HELD);
        Check.equal("one is held", x.held(), 1);
        x.vote(2, 1, true);
        Check.equal("and may pass", x.vote(2, 2, true), PASSED);
        Check.equal("late, into the box", x.mailAt(8, 1), 2);
    }

    private static void allPersonsAreReached() {
        MailPriory x = house();
        for (int person = 0; person < 16; person++) {
            x.join(1, person, person % 2 == 0 ? DIRECT : DIGEST);
        }
        for (int sender = 0; sender < 16; sender++) {
            x.send(sender, 1, 0, NONE);
            Check.equal("all but the sender", x.reached(sender), 65535 & ~(1 << sender));
            for (int reader = 0; reader < 16; reader += 2) {
                Check.equal("read at once", x.read(reader), reader == sender ? NONE : sender);
            }
        }
    }
}
