/** The rest of "Terms": digests, holds, appeals and constants, a test for each sentence. */
final class TermsOfHoldsSentences extends Given {
    private TermsOfHoldsSentences() {
    }

    static void test() {
        digests();
        editions();
        holds();
        decisions();
        appeals();
        votes();
        constants();
        noTests();
    }

    private static void digests() {
        Sentences.test("There may be one for each list and day", () -> {
            MailPriory x = lists(10);
            for (int list = 0; list < 10; list++) {
                x.join(list, 8, DIGEST);
            }
            for (int list = 0; list < 10; list++) {
                sendPassed(x, 9, list);
            }
            x.pass(1);
            sendPassed(x, 9, 0);
            sendPassed(x, 9, 9);
            for (int list = 0; list < 10; list++) {
                Check.equal("of " + list + " on the day 0", x.digest(list, 0, 0), list);
                Check.equal("alone in it", x.size(list, 0), 1);
                boolean isThere = list == 0 || list == 9;
                Check.equal("of " + list + " on the day 1", x.size(list, 1), isThere ? 1 : 0);
                Check.equal("or none", x.edition(list, 1), isThere ? 0 : NONE);
            }
        });
        Sentences.test("Its mails are told by rising numbers", () -> {
            MailPriory x = lists(2);
            x.join(0, 8, DIGEST);
            x.nest(1, 0);
            for (int mail = 0; mail < 5; mail++) {
                sendHeld(x, 9 + mail, mail % 2);
            }
            sendPassed(x, 9, 0);
            int[] due = {0, 1, 3, 4, 5};
            for (int mail : new int[] {4, 0, 3, 1}) {
                x.approve(mail);
            }
            for (int place = 0; place < 5; place++) {
                Check.equal("place " + place, x.digest(0, 0, place), due[place]);
            }
            x.pass(1);
            x.approve(2);
            Check.equal("a late one in its place", x.digest(0, 0, 2), 2);
            Check.equal("the others behind it", x.digest(0, 0, 5), 5);
        });
    }

    private static void editions() {
        Sentences.test("As long as its day is today, its edition is 0", () -> {
            MailPriory x = lists(1);
            x.join(0, 8, DIGEST);
            x.pass(1);
            for (int mail = 0; mail < 4; mail++) {
                sendHeld(x, 9, 0);
                Check.equal("none yet, or 0", x.edition(0, 1), mail == 0 ? NONE : 0);
                x.approve(mail);
                Check.equal("approved on its day", x.edition(0, 1), 0);
            }
            sendPassed(x, 10, 0);
            Check.equal("passed at once", x.edition(0, 1), 0);
        });
        Sentences.test("When a day ends, the edition of each digest of it is 1", () -> {
            for (int days : new int[] {1, 2, 50}) {
                MailPriory x = lists(3);
                x.join(0, 8, DIGEST);
                x.join(2, 8, DIGEST);
                sendPassed(x, 9, 0);
                sendPassed(x, 9, 0);
                sendPassed(x, 9, 1);
                sendPassed(x, 9, 2);
                x.pass(days);
                Check.equal("the digest of 0", x.edition(0, 0), 1);
                Check.equal("the digest of 2", x.edition(2, 0), 1);
                Check.equal("no digest of 1", x.edition(1, 0), NONE);
                x.pass(days);
                Check.equal("other days that end", x.edition(0, 0), 1);
            }
        });
        Sentences.test("When mails come into a digest whose day is over, its edition grows by 1, "
                + "once by a call, however many mails come into it by that; if there was none of "
                + "that list and day, its edition is 1 by that", () -> {
            lateMailsOneByOne();
            lateMailsOfOneCall();
        });
    }

    private static void lateMailsOneByOne() {
        MailPriory x = lists(2);
        x.join(0, 8, DIGEST);
        x.join(0, 7, DIGEST);
        for (int mail = 0; mail < 3; mail++) {
            sendHeld(x, 9 + mail, 0);
        }
        sendHeld(x, 12, 1);
        sendPassed(x, 13, 0);
        x.pass(1);
        Check.equal("its day is over", x.edition(0, 0), 1);
        for (int mail = 0; mail < 3; mail++) {
            x.approve(mail);
            Check.equal("1 more, for two readers too", x.edition(0, 0), 2 + mail);
        }
        Check.equal("there was none of 1", x.edition(1, 0), NONE);
        x.join(1, 8, DIRECT);
        x.approve(3);
        Check.equal("nor is by a box", x.edition(1, 0), NONE);
        Check.equal("the other one stays", x.edition(0, 0), 4);
    }

    private static void lateMailsOfOneCall() {
        MailPriory x = lists(5);
        x.join(0, 8, DIGEST);
        x.join(1, 8, DIGEST);
        sendPassed(x, 10, 0);
        for (int mail = 1; mail <= 4; mail++) {
            sendHeld(x, 9, mail % 2);
        }
        x.pass(1);
        sendHeld(x, 9, 0);
        sendHeld(x, 9, 0);
        Check.equal("the digest of 0", x.edition(0, 0), 1);
        Check.equal("none of 1", x.edition(1, 0), NONE);
        appealAndVote(x, 1, true);
        Check.equal("three mails", x.size(0, 0), 3);
        Check.equal("two of them by this call: 1 more", x.edition(0, 0), 2);
        Check.equal("two mails", x.size(1, 0), 2);
        Check.equal("both by this call: 1", x.edition(1, 0), 1);
        Check.equal("two mails of today", x.size(0, 1), 2);
        Check.equal("0 as long as it is today", x.edition(0, 1), 0);
        x.pass(1);
        Check.equal("then 1", x.edition(0, 1), 1);
        Check.equal("and no other grows", x.edition(0, 0) + x.edition(1, 0), 3);
    }

    private static void holds() {
        Sentences.test("A mail that is HELD lapses on the day that is the patience of its list, as "
                + "it was when the mail was sent, behind the day on which it was sent, if there is "
                + "no open appeal for it then: it is LAPSED", () -> {
            for (int patience : new int[] {1, 2, 29, 30}) {
                lapsesAfter(patience);
            }
            lapsesInsideALongPass();
        });
        Sentences.test("A mail whose appeal was open on that day does not lapse", () -> {
            MailPriory x = lists(4);
            x.rules(0, 10, 3, false);
            sendHeld(x, 9, 0);
            sendHeld(x, 10, 0);
            sendHeld(x, 11, 0);
            x.appeal(0);
            x.pass(2);
            x.appeal(1);
            Check.equal("the one without an appeal", x.pass(1), 1);
            Check.equal("appealed on the first day", x.state(0), HELD);
            Check.equal("appealed on the day before", x.state(1), HELD);
            Check.equal("not appealed", x.state(2), LAPSED);
            Check.equal("nor on a later day", x.pass(50), 0);
            Check.equal("two are held", x.held(), 2);
            Check.equal("cleared late", voteTwice(x, 0, true), PASSED);
            Check.equal("condemned late", voteTwice(x, 1, false), CONDEMNED);
        });
    }

    private static void lapsesAfter(int patience) {
        MailPriory x = lists(1);
        x.pass(4);
        x.rules(0, 10, patience, false);
        sendHeld(x, 9, 0);
        x.rules(0, 10, 31 - patience, false);
        sendHeld(x, 10, 0);
        x.bar(0, 11);
        x.rules(0, 200, patience, true);
        sendPassed(x, 11, 0);
        sendPassed(x, 12, 0);
        Check.equal("for SCORE", x.lapses(0), 4 + patience);
        Check.equal("by another patience", x.lapses(1), 35 - patience);
        Check.equal("for BARRED", x.lapses(2), 4 + patience);
        Check.equal("for STRANGER", x.lapses(3), 4 + patience);
        int lapsed = 0;
        for (int day = 5; day <= 40; day++) {
            int due = (day == 4 + patience ? 3 : 0) + (day == 35 - patience ? 1 : 0);
            Check.equal("by the day " + day, x.pass(1), due);
            lapsed += due;
            Check.equal("held on the day " + day, x.held(), 4 - lapsed);
            Check.equal("the first", x.state(0), day < 4 + patience ? HELD : LAPSED);
            Check.equal("the second", x.state(1), day < 35 - patience ? HELD : LAPSED);
        }
    }

    private static void lapsesInsideALongPass() {
        MailPriory x = lists(1);
        sendHeld(x, 9, 0);
        Check.equal("days up to the day before", x.pass(6), 0);
        sendHeld(x, 9, 0);
        Check.equal("days beyond it", x.pass(6), 1);
        Check.equal("the first has lapsed", x.state(0), LAPSED);
        Check.equal("the second has not", x.state(1), HELD);
        Check.equal("the second too", x.pass(50), 1);
        Check.equal("once", x.pass(50), 0);
    }

    private static void decisions() {
        Sentences.test("The lister may let a mail that is HELD pass, or refuse it: it is CONDEMNED "
                + "then", () -> {
            MailPriory x = lists(1);
            x.join(0, 8, DIRECT);
            sendHeld(x, 9, 0);
            sendHeld(x, 9, 0);
            x.approve(0);
            x.refuse(1);
            Check.equal("let pass", x.state(0), PASSED);
            Check.equal("refused", x.state(1), CONDEMNED);
            Check.equal("one came", x.box(8), 1);
            Check.equal("the weight of the sender stays", x.weight(9), 0);
            Check.equal("neither lapses", x.pass(50), 0);
            for (int mail : AT_NOT_HELD) {
                MailPriory y = mailOfEachState();
                int before = y.state(mail);
                Check.throwsOf("let " + mail + " pass", STATE, () -> y.approve(mail));
                Check.throwsOf("refuse " + mail, STATE, () -> y.refuse(mail));
                Check.equal("it is as before", y.state(mail), before);
            }
        });
    }

    private static void appeals() {
        Sentences.test("For a mail that is HELD there can be one appeal", () -> {
            MailPriory x = mailOfEachState();
            for (int mail : AT_NOT_HELD) {
                Check.throwsOf("for " + mail + ", not HELD", STATE, () -> x.appeal(mail));
            }
            Check.throwsOf("a second one", STATE, () -> x.appeal(AT_APPEALED));
            Check.equal("a first one", Integer.bitCount(x.appeal(AT_HELD)), 3);
            Check.throwsOf("a second one for that", STATE, () -> x.appeal(AT_HELD));
        });
        Sentences.test("It is judged by three jurors: of the persons who are listers of any list, but "
                + "neither the sender, nor the lister of the list to which it was sent, those three "
                + "who have judged least often, of several the lowest ones", () -> {
            jurorsAreListers();
            jurorsJudgedLeastOften();
        });
    }

    private static void jurorsAreListers() {
        MailPriory x = new MailPriory();
        x.word(0, 50);
        for (int lister : new int[] {15, 12, 7, 7, 12}) {
            x.list(lister);
        }
        x.join(0, 1, DIRECT);
        sendHeld(x, 1, 0);
        sendHeld(x, 7, 4);
        Check.throwsOf("12 and 7 alone, though by four lists", STATE, () -> x.appeal(0));
        x.list(0);
        Check.equal("the third, by a list of later", x.appeal(0), Check.set(0, 7, 12));
        Check.throwsOf("without 7, the sender, and 12, the lister", STATE, () -> x.appeal(1));
        x.list(3);
        Check.equal("a third again", x.appeal(1), Check.set(0, 3, 15));
        sendHeld(x, 7, 2);
        Check.equal("the sender is the lister, of four the lowest", x.appeal(2),
                Check.set(0, 3, 12));
    }

    private static void jurorsJudgedLeastOften() {
        MailPriory x = lists(7);
        for (int mail = 0; mail < 5; mail++) {
            sendHeld(x, 9, 0);
        }
        Check.equal("nobody has judged", x.appeal(0), Check.set(1, 2, 3));
        x.vote(0, 1, false);
        Check.equal("1 has judged once", x.appeal(1), Check.set(2, 3, 4));
        x.vote(0, 3, false);
        Check.equal("1 and 3 have judged once", x.appeal(2), Check.set(2, 4, 5));
        x.vote(1, 2, true);
        x.vote(1, 4, false);
        Check.equal("5 and 6 have not, 1 is the lowest of those with one", x.appeal(3),
                Check.set(1, 5, 6));
        x.vote(3, 1, true);
        x.vote(3, 5, false);
        x.vote(3, 6, false);
        Check.equal("1 has judged twice, the others once", x.appeal(4), Check.set(2, 3, 4));
    }

    private static void votes() {
        Sentences.test("Each of them votes once", () -> {
            for (int juror = 1; juror <= 3; juror++) {
                int voter = juror;
                MailPriory x = lists(4);
                sendHeld(x, 9, 0);
                x.appeal(0);
                Check.equal("a vote", x.vote(0, voter, true), HELD);
                Check.throwsOf("alike again", STATE, () -> x.vote(0, voter, true));
                Check.throwsOf("otherwise", STATE, () -> x.vote(0, voter, false));
                Check.equal("it is held", x.state(0), HELD);
                Check.equal("judged once", x.judged(voter), 1);
            }
        });
        Sentences.test("When two have voted alike, the appeal is not open any more, and:", () -> {
            for (int way = 0; way < 8; way++) {
                votesOfThree(way);
            }
        });
        Sentences.test("if they voted for the sender, the sender is cleared: the weight of the "
                + "sender becomes -10; this mail passes, and so do all other mails of the sender "
                + "that are HELD for SCORE then, all of them, this one among them, by rising "
                + "numbers, each with an appeal for it, which is not open any more;", () -> {
            clearsAllForScore();
            clearsOneForAnotherCause();
            clearsTwice();
        });
        Sentences.test("otherwise the mail is CONDEMNED, and the weight of the sender grows by 5, to "
                + "100 at most", () -> {
            MailPriory x = lists(4);
            x.rules(0, 1, 7, false);
            for (int mail = 0; mail < 22; mail++) {
                x.pass(1);
                sendHeld(x, 9, 0);
                Check.equal("condemned", appealAndVote(x, mail, false), CONDEMNED);
                Check.equal("by 5, to 100", x.weight(9), Math.min(100, 5 + 5 * mail));
            }
            Check.equal("no other weight", x.weight(8) + x.weight(10), 0);
            sendHeld(x, 9, 0);
            Check.equal("by 100 and a mail", x.score(22), 151);
            Check.equal("cleared at last", appealAndVote(x, 22, true), PASSED);
            Check.equal("-10 from 100", x.weight(9), -10);
        });
    }

    /** Each of the bits of a way is the vote of a juror, by rising numbers. */
    private static void votesOfThree(int way) {
        MailPriory x = lists(4);
        sendHeld(x, 9, 0);
        x.appeal(0);
        int votesFor = 0;
        int votesAgainst = 0;
        for (int juror = 1; juror <= 3; juror++) {
            boolean isFor = (way >> (juror - 1) & 1) == 1;
            int voter = juror;
            if (votesFor == 2 || votesAgainst == 2) {
                Check.throwsOf("it is not open", STATE, () -> x.vote(0, voter, isFor));
                Check.equal("and has not judged", x.judged(juror), 0);
            } else {
                votesFor += isFor ? 1 : 0;
                votesAgainst += isFor ? 0 : 1;
                int due = votesFor == 2 ? PASSED : votesAgainst == 2 ? CONDEMNED : HELD;
                Check.equal("way " + way + ", vote of " + juror, x.vote(0, juror, isFor), due);
                Check.equal("jurors then", x.jurors(0), due == HELD ? 14 & ~((2 << juror) - 1) : 0);
            }
        }
        Check.equal("weight", x.weight(9), votesFor == 2 ? -10 : 5);
    }

    private static void clearsAllForScore() {
        MailPriory x = lists(5);
        x.join(0, 8, DIRECT);
        x.join(1, 8, DIRECT);
        x.bar(2, 9);
        sendHeld(x, 9, 0);
        sendHeld(x, 9, 1);
        sendHeld(x, 9, 2);
        sendHeld(x, 10, 0);
        sendHeld(x, 9, 0);
        sendHeld(x, 9, 0);
        sendHeld(x, 9, 1);
        x.refuse(5);
        x.appeal(0);
        x.appeal(2);
        x.appeal(6);
        x.vote(0, 1, false);
        x.appeal(4);
        Check.equal("cleared", voteTwice(x, 4, true), PASSED);
        Check.equal("weight", x.weight(9), -10);
        int[] due = {PASSED, PASSED, HELD, HELD, PASSED, CONDEMNED, PASSED};
        for (int mail = 0; mail < 7; mail++) {
            Check.equal("state of " + mail, x.state(mail), due[mail]);
            Check.equal("jurors of " + mail, x.jurors(mail) != 0 ? 1 : 0, mail == 2 ? 1 : 0);
        }
        Check.equal("four came", x.box(8), 4);
        int[] came = {0, 1, 4, 6};
        for (int place = 0; place < 4; place++) {
            Check.equal("by rising numbers", x.mailAt(8, place), came[place]);
        }
        Check.throwsOf("no vote in what it closed", STATE, () -> x.vote(0, 2, false));
        Check.throwsOf("nor an appeal again", STATE, () -> x.appeal(6));
        Check.equal("the appeal for BARRED goes on", voteTwice(x, 2, false), CONDEMNED);
        Check.equal("weight then", x.weight(9), -5);
    }

    private static void clearsOneForAnotherCause() {
        MailPriory x = lists(4);
        x.bar(0, 9);
        sendHeld(x, 9, 0);
        sendHeld(x, 9, 1);
        sendHeld(x, 9, 0);
        sendHeld(x, 9, 1);
        Check.equal("a BARRED mail", appealAndVote(x, 2, true), PASSED);
        Check.equal("another of BARRED stays", x.state(0), HELD);
        Check.equal("one of SCORE before it", x.state(1), PASSED);
        Check.equal("one of SCORE behind it", x.state(3), PASSED);
    }

    private static void clearsTwice() {
        MailPriory x = lists(4);
        sendHeld(x, 9, 0);
        appealAndVote(x, 0, true);
        x.word(2, 50);
        x.send(9, 0, Check.set(0, 2), NONE);
        Check.equal("50 + 50 - 10, one mail earlier", x.score(1), 91);
        Check.equal("held again", x.cause(1), SCORE);
        appealAndVote(x, 1, true);
        Check.equal("it becomes -10, not 10 less", x.weight(9), -10);
    }

    private static void constants() {
        Sentences.test("The constants: `NONE = -1`: None",
                () -> Check.equal("NONE", MailPriory.NONE, -1));
        Sentences.test("`DIRECT = 0, DIGEST = 1`: Modes", () -> {
            Check.equal("DIRECT", MailPriory.DIRECT, 0);
            Check.equal("DIGEST", MailPriory.DIGEST, 1);
        });
        Sentences.test("`PASSED = 0, HELD = 1, LAPSED = 2, CONDEMNED = 3`: States of mails", () -> {
            Check.equal("PASSED", MailPriory.PASSED, 0);
            Check.equal("HELD", MailPriory.HELD, 1);
            Check.equal("LAPSED", MailPriory.LAPSED, 2);
            Check.equal("CONDEMNED", MailPriory.CONDEMNED, 3);
        });
        Sentences.test("`BARRED = 0, STRANGER = 1, SCORE = 2`: Causes for which mails are held",
                () -> {
            Check.equal("BARRED", MailPriory.BARRED, 0);
            Check.equal("STRANGER", MailPriory.STRANGER, 1);
            Check.equal("SCORE", MailPriory.SCORE, 2);
        });
    }

    private static void noTests() {
        Sentences.noTest("Ahead of the calls `list`, `join`, `leave`, `mode`, `nest`, `rules`, "
                + "`bar`, `word`, `reaches`, `reachesByMembers`, `modeOf` the interface says: ---- "
                + "lists and members");
        Sentences.noTest("Ahead of the calls `send`, `approve`, `refuse`, `appeal`, `vote`, `state`, "
                + "`cause`, `score`, `lapses`, `jurors`, `reached`, `mails`, `held` the interface "
                + "says: ---- mails");
        Sentences.noTest("Ahead of the calls `weight`, `judged`, `bounces`, `box`, `mailAt`, `read` "
                + "the interface says: ---- persons");
        Sentences.noTest("Ahead of the calls `size`, `digest`, `edition`, `readers`, `pass` the "
                + "interface says: ---- digests and days");
    }
}
