/** What the tests of sentences begin with, by inheritance: names, objects, steps of several calls. */
abstract class Given {
    static final int NONE = MailPriory.NONE;
    static final int DIRECT = MailPriory.DIRECT;
    static final int DIGEST = MailPriory.DIGEST;
    static final int PASSED = MailPriory.PASSED;
    static final int HELD = MailPriory.HELD;
    static final int LAPSED = MailPriory.LAPSED;
    static final int CONDEMNED = MailPriory.CONDEMNED;
    static final int BARRED = MailPriory.BARRED;
    static final int STRANGER = MailPriory.STRANGER;
    static final int SCORE = MailPriory.SCORE;

    static final Class<IndexOutOfBoundsException> INDEX = IndexOutOfBoundsException.class;
    static final Class<IllegalArgumentException> ARGUMENT = IllegalArgumentException.class;
    static final Class<IllegalStateException> STATE = IllegalStateException.class;

    /** 32 and the like are here since a shift by them is one by 0. */
    static final int[] NO_PERSONS = {
        -1, 16, 17, 31, 32, 48, 63, 64, 256, -16, -32, Integer.MIN_VALUE, Integer.MAX_VALUE,
    };
    static final int[] NO_WORDS = {
        -1, 20, 21, 31, 32, 52, 64, -20, -32, Integer.MIN_VALUE, Integer.MAX_VALUE,
    };
    /** No modes: the numbers next to them, and some whose lowest bits are theirs. */
    static final int[] NO_MODES = {
        -1, 2, 3, 4, 256, 257, -2, Integer.MIN_VALUE, Integer.MAX_VALUE,
    };

    Given() {
    }

    /** For the things numbered 0 to count - 1: the nearest numbers that are none, and far ones. */
    static int[] notBelow(int count) {
        return new int[] {
            -1, count, count + 1, count + 32, count + 256, -32, Integer.MIN_VALUE,
            Integer.MAX_VALUE,
        };
    }

    /**
     * As many lists, the list k with the lister k. A mail with the word 0 is held for SCORE, one with
     * the word 1 is not.
     */
    static MailPriory lists(int count) {
        MailPriory x = new MailPriory();
        for (int list = 0; list < count; list++) {
            x.list(list);
        }
        x.word(0, 50);
        x.word(1, -20);
        return x;
    }

    static int sendHeld(MailPriory x, int sender, int list) {
        return x.send(sender, list, Check.set(0), NONE);
    }

    static int sendPassed(MailPriory x, int sender, int list) {
        return x.send(sender, list, Check.set(1), NONE);
    }

    /** The persons with the lowest numbers of those whose votes are awaited vote alike. */
    static int voteTwice(MailPriory x, int mail, boolean isFor) {
        x.vote(mail, Integer.numberOfTrailingZeros(x.jurors(mail)), isFor);
        return x.vote(mail, Integer.numberOfTrailingZeros(x.jurors(mail)), isFor);
    }

    static int appealAndVote(MailPriory x, int mail, boolean isFor) {
        x.appeal(mail);
        return voteTwice(x, mail, isFor);
    }

    /** Sends the list as many mails that pass at once, by the persons 14 and 15. */
    static void sendMany(MailPriory x, int list, int mails) {
        for (int mail = 0; mail < mails; mail++) {
            sendPassed(x, 14 + mail % 2, list);
        }
    }

    static void passTo(MailPriory x, int from, int day) {
        for (int today = from; today < day; today += 50) {
            x.pass(Math.min(50, day - today));
        }
    }

    /** Lists 0 to 4, a person 8 who reads the list 0 DIRECT, and a mail of each state. */
    static MailPriory mailOfEachState() {
        MailPriory x = lists(5);
        x.join(0, 8, DIRECT);
        sendPassed(x, 9, 0);
        x.rules(0, 10, 3, false);
        sendHeld(x, 9, 0);
        x.rules(0, 10, 30, false);
        sendHeld(x, 10, 0);
        sendHeld(x, 11, 0);
        sendHeld(x, 12, 0);
        sendHeld(x, 13, 0);
        sendHeld(x, 14, 0);
        sendHeld(x, 15, 0);
        x.approve(AT_APPROVED);
        x.refuse(AT_REFUSED);
        appealAndVote(x, AT_CLEARED, true);
        appealAndVote(x, AT_CONDEMNED, false);
        x.appeal(AT_APPEALED);
        x.pass(3);
        return x;
    }

    /** The numbers of the mails in mailOfEachState. */
    static final int AT_PASSED = 0;
    static final int AT_LAPSED = 1;
    static final int AT_APPROVED = 2;
    static final int AT_REFUSED = 3;
    static final int AT_CLEARED = 4;
    static final int AT_CONDEMNED = 5;
    static final int AT_APPEALED = 6;
    static final int AT_HELD = 7;

    static final int[] AT_NOT_HELD = {
        AT_PASSED, AT_LAPSED, AT_APPROVED, AT_REFUSED, AT_CLEARED, AT_CONDEMNED,
    };
}
