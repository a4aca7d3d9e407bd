/** A test for each sentence of the promises 13 to 17: what is done with mails. */
final class MailsSentences extends Given {
    private MailsSentences() {
    }

    static void test() {
        Sentences.under("Promise 13: send");
        send();
        sendWordsAndAnswers();
        sendThrows();
        Sentences.under("Promise 14: approve");
        approve();
        approveThrows();
        Sentences.under("Promise 15: refuse");
        refuse();
        Sentences.under("Promise 16: appeal");
        appeal();
        Sentences.under("Promise 17: vote");
        vote();
        voteThrows();
    }

    private static void send() {
        Sentences.test("A person sends a mail", () -> {
            MailPriory x = lists(2);
            x.join(1, 8, DIRECT);
            x.send(9, 1, 0, NONE);
            Check.equal("there is one mail", x.mails(), 1);
            Check.equal("it comes to the list", x.read(8), 0);
            x.send(8, 1, 0, 0);
            Check.equal("there are two", x.mails(), 2);
            Check.equal("not back to its sender", x.read(8), NONE);
        });
        Sentences.test("`sender`: 0 to 15", () -> {
            MailPriory x = lists(1);
            Check.throwsOf("the sender -1", INDEX, () -> x.send(-1, 0, 0, NONE));
            Check.throwsOf("the sender 16", INDEX, () -> x.send(16, 0, 0, NONE));
            Check.equal("the sender 0", x.send(0, 0, 0, NONE), 0);
            Check.equal("the sender 15", x.send(15, 0, 0, NONE), 1);
        });
        Sentences.test("`list`: the list", () -> {
            MailPriory x = lists(3);
            x.join(0, 8, DIRECT);
            x.join(2, 7, DIRECT);
            Check.throwsOf("-1", INDEX, () -> x.send(9, -1, 0, NONE));
            Check.throwsOf("3", INDEX, () -> x.send(9, 3, 0, NONE));
            x.send(9, 0, 0, NONE);
            x.send(9, 2, 0, NONE);
            Check.equal("the first", x.reached(0), Check.set(8));
            Check.equal("the last", x.reached(1), Check.set(7));
        });
        Sentences.test("Returns its number", () -> {
            MailPriory x = lists(2);
            Check.equal("the first", sendPassed(x, 9, 0), 0);
            Check.equal("a held one", sendHeld(x, 9, 1), 1);
            Check.throwsOf("a call that throws makes none", INDEX, () -> sendPassed(x, 9, 2));
            x.pass(3);
            Check.equal("on another day", sendPassed(x, 10, 1), 2);
        });
    }

    private static void sendWordsAndAnswers() {
        Sentences.test("`words`: its words, as a set: bit k for the word k, 0 to 1048575", () -> {
            MailPriory x = new MailPriory();
            x.list(0);
            for (int word = 0; word < 20; word++) {
                x.word(word, word + 20);
            }
            for (int word = 0; word < 20; word++) {
                x.send(word % 16, 0, 1 << word, NONE);
                Check.equal("bit " + word, x.score(word), word + 20 + (word < 16 ? 0 : 1));
            }
            x.pass(1);
            x.send(9, 0, 0, NONE);
            Check.equal("no words", x.score(20), 0);
            x.send(10, 0, 1048575, NONE);
            Check.equal("all words", x.score(21), 590);
            Check.throwsOf("-1", ARGUMENT, () -> x.send(11, 0, -1, NONE));
            Check.throwsOf("1048576", ARGUMENT, () -> x.send(11, 0, 1048576, NONE));
        });
        Sentences.test("`answers`: the mail that it answers, or NONE", () -> {
            MailPriory x = lists(1);
            Check.throwsOf("the mail 0 before it is", INDEX, () -> x.send(9, 0, 0, 0));
            Check.equal("none", x.send(9, 0, 0, -1), 0);
            Check.throwsOf("itself", INDEX, () -> x.send(9, 0, 0, 1));
            Check.throwsOf("-2", INDEX, () -> x.send(9, 0, 0, -2));
            Check.equal("the first and last", x.send(9, 0, 0, 0), 1);
            Check.equal("the last", x.send(9, 0, 0, 1), 2);
            Check.equal("the first", x.send(9, 0, 0, 0), 3);
            Check.equal("the own one, three mails earlier", x.score(3), 0);
        });
    }

    private static void sendThrows() {
        Sentences.test("Throws `IndexOutOfBoundsException` if there is no such person, list or mail, "
                + "that not being NONE", () -> {
            MailPriory x = lists(3);
            sendPassed(x, 9, 0);
            sendPassed(x, 9, 0);
            Check.throwsForEach("sender", INDEX, NO_PERSONS, k -> x.send(k, 0, 0, NONE));
            Check.throwsForEach("list", INDEX, notBelow(3), k -> x.send(9, k, 0, NONE));
            int[] noMails = {2, 3, 79, 80, 34, 258, -2, -3, Integer.MIN_VALUE, Integer.MAX_VALUE};
            Check.throwsForEach("answers", INDEX, noMails, k -> x.send(9, 0, 0, k));
            Check.equal("none was sent", x.mails(), 2);
            Check.equal("NONE is no wrong one", x.send(9, 0, 0, NONE), 2);
            Check.equal("nor counted as haste", x.score(2), 2);
        });
        Sentences.test("Throws `IllegalArgumentException` if words is out of its range", () -> {
            MailPriory x = lists(1);
            int[] noWords = {-1, 1048576, 1048577, 2097151, -1048576, 1 << 30, Integer.MIN_VALUE,
                Integer.MAX_VALUE};
            Check.throwsForEach("words", ARGUMENT, noWords, k -> x.send(9, 0, k, NONE));
            Check.equal("none was sent", x.mails(), 0);
        });
        Sentences.test("Throws `IllegalStateException` if there are 80 mails", () -> {
            MailPriory x = lists(1);
            x.join(0, 8, DIRECT);
            for (int mail = 0; mail < 79; mail++) {
                sendHeld(x, 9, 0);
            }
            Check.equal("the eightieth", sendHeld(x, 9, 0), 79);
            Check.throwsOf("one more", STATE, () -> sendHeld(x, 9, 0));
            Check.equal("all lapse", x.pass(7), 80);
            Check.throwsOf("then too", STATE, () -> sendPassed(x, 9, 0));
            Check.equal("80 mails", x.mails(), 80);
            Check.equal("none came", x.box(8), 0);
        });
    }

    private static void approve() {
        Sentences.test("The lister lets a mail pass", () -> {
            MailPriory x = lists(2);
            x.join(0, 8, DIRECT);
            x.bar(0, 9);
            x.rules(1, 10, 7, true);
            sendHeld(x, 10, 0);
            sendPassed(x, 9, 0);
            sendPassed(x, 9, 1);
            int[] causes = {SCORE, BARRED, STRANGER};
            for (int mail = 0; mail < 3; mail++) {
                Check.equal("it is held", x.state(mail), HELD);
                x.approve(mail);
                Check.equal("it passed", x.state(mail), PASSED);
                Check.equal("the cause stays", x.cause(mail), causes[mail]);
            }
            Check.equal("two came", x.box(8), 2);
            Check.equal("the person stays barred", x.cause(sendPassed(x, 9, 0)), BARRED);
        });
        Sentences.test("`mail`: its number", () -> {
            MailPriory x = lists(1);
            for (int mail = 0; mail < 3; mail++) {
                sendHeld(x, 9, 0);
            }
            Check.throwsOf("-1", INDEX, () -> x.approve(-1));
            Check.throwsOf("3", INDEX, () -> x.approve(3));
            Check.equal("the first", x.approve(0), 0);
            Check.equal("the last", x.approve(2), 0);
            Check.equal("those two alone", x.held(), 1);
        });
        Sentences.test("Returns the persons whom it reaches, as a set", () -> {
            MailPriory x = lists(3);
            sendHeld(x, 9, 0);
            Check.equal("nobody", x.approve(0), 0);
            for (int person = 0; person < 16; person++) {
                x.join(0, person, person % 2);
            }
            sendHeld(x, 9, 0);
            Check.equal("all but the sender", x.approve(1), 65535 & ~Check.set(9));
            x.leave(0, 8);
            x.join(1, 8, DIRECT);
            sendMany(x, 1, 9);
            x.leave(1, 8);
            x.join(0, 8, DIRECT);
            sendHeld(x, 9, 0);
            Check.equal("a box of ten mails", x.box(8), 10);
            Check.equal("not by bouncing", x.approve(11), 65535 & ~Check.set(8, 9));
            Check.equal("one bounce", x.bounces(8), 1);
        });
    }

    private static void approveThrows() {
        Sentences.test("Throws `IndexOutOfBoundsException` if there is no such mail", () -> {
            MailPriory x = mailOfEachState();
            Check.throwsForEach("the mail", INDEX, notBelow(8), k -> x.approve(k));
            MailPriory none = lists(1);
            Check.throwsForEach("the mail", INDEX, notBelow(0), k -> none.approve(k));
        });
        Sentences.test("Throws `IllegalStateException` if it is not HELD, or an appeal for it is "
                + "open", () -> {
            MailPriory x = mailOfEachState();
            Check.throwsForEach("not HELD", STATE, AT_NOT_HELD, k -> x.approve(k));
            Check.throwsOf("appealed", STATE, () -> x.approve(AT_APPEALED));
            int voter = Integer.numberOfTrailingZeros(x.jurors(AT_APPEALED));
            x.vote(AT_APPEALED, voter, true);
            Check.throwsOf("half judged", STATE, () -> x.approve(AT_APPEALED));
            Check.equal("it is held", x.state(AT_APPEALED), HELD);
            Check.equal("nothing came by that", x.box(8), 3);
            Check.equal("HELD without an appeal", x.approve(AT_HELD), Check.set(8));
            Check.throwsOf("that again", STATE, () -> x.approve(AT_HELD));
        });
    }

    private static void refuse() {
        Sentences.test("The lister refuses a mail", () -> {
            MailPriory x = lists(1);
            x.join(0, 8, DIRECT);
            sendHeld(x, 9, 0);
            x.refuse(0);
            Check.equal("condemned", x.state(0), CONDEMNED);
            Check.equal("not held", x.held(), 0);
            Check.equal("it does not come", x.box(8), 0);
            Check.equal("it does not lapse", x.pass(7), 0);
        });
        Sentences.test("`mail`: its number", () -> {
            MailPriory x = lists(1);
            for (int mail = 0; mail < 3; mail++) {
                sendHeld(x, 9, 0);
            }
            Check.throwsOf("-1", INDEX, () -> x.refuse(-1));
            Check.throwsOf("3", INDEX, () -> x.refuse(3));
            Check.equal("the first", x.refuse(0), 50);
            Check.equal("the last", x.refuse(2), 52);
            Check.equal("those two alone", x.held(), 1);
        });
        Sentences.test("Returns its score", () -> {
            MailPriory x = lists(2);
            x.bar(0, 9);
            sendPassed(x, 9, 0);
            x.send(9, 0, 0, 0);
            sendHeld(x, 9, 1);
            Check.equal("below 0", x.refuse(0), -20);
            Check.equal("of an answer", x.refuse(1), -2);
            Check.equal("a high one", x.refuse(2), 52);
        });
        Sentences.test("Throws `IndexOutOfBoundsException` if there is no such mail", () -> {
            MailPriory x = mailOfEachState();
            Check.throwsForEach("the mail", INDEX, notBelow(8), k -> x.refuse(k));
            MailPriory none = lists(1);
            Check.throwsForEach("the mail", INDEX, notBelow(0), k -> none.refuse(k));
        });
        Sentences.test("Throws `IllegalStateException` if it is not HELD, or an appeal for it is "
                + "open", () -> {
            MailPriory x = mailOfEachState();
            Check.throwsForEach("not HELD", STATE, AT_NOT_HELD, k -> x.refuse(k));
            Check.throwsOf("appealed", STATE, () -> x.refuse(AT_APPEALED));
            int voter = Integer.numberOfTrailingZeros(x.jurors(AT_APPEALED));
            x.vote(AT_APPEALED, voter, false);
            Check.throwsOf("half judged", STATE, () -> x.refuse(AT_APPEALED));
            Check.equal("it is held", x.state(AT_APPEALED), HELD);
            Check.equal("HELD without an appeal", x.refuse(AT_HELD), 50);
            Check.throwsOf("that again", STATE, () -> x.refuse(AT_HELD));
        });
    }

    private static void appeal() {
        Sentences.test("The sender of a mail appeals", () -> {
            MailPriory x = lists(4);
            sendHeld(x, 9, 0);
            x.appeal(0);
            Check.equal("it is held", x.state(0), HELD);
            Check.equal("jurors are asked", x.jurors(0), Check.set(1, 2, 3));
            Check.equal("it lapses no more", x.lapses(0), NONE);
            Check.equal("nobody has judged by that", x.judged(1), 0);
            Check.equal("its weight is as before", x.weight(9), 0);
        });
        Sentences.test("`mail`: its number", () -> {
            MailPriory x = lists(4);
            for (int mail = 0; mail < 3; mail++) {
                sendHeld(x, 9, mail);
            }
            Check.throwsOf("-1", INDEX, () -> x.appeal(-1));
            Check.throwsOf("3", INDEX, () -> x.appeal(3));
            Check.equal("the first", x.appeal(0), Check.set(1, 2, 3));
            Check.equal("the last", x.appeal(2), Check.set(0, 1, 3));
            Check.equal("those two alone", x.jurors(1), 0);
        });
        Sentences.test("Returns the three jurors, as a set", () -> {
            MailPriory x = new MailPriory();
            x.word(0, 50);
            for (int lister : new int[] {15, 0, 7, 14, 7}) {
                x.list(lister);
            }
            sendHeld(x, 9, 0);
            sendHeld(x, 9, 1);
            Check.equal("of the listers 0, 7 and 14", x.appeal(0), 1 + 128 + 16384);
            Check.equal("of the listers 7, 14 and 15", x.appeal(1), 128 + 16384 + 32768);
        });
        Sentences.test("Throws `IndexOutOfBoundsException` if there is no such mail", () -> {
            MailPriory x = mailOfEachState();
            Check.throwsForEach("the mail", INDEX, notBelow(8), k -> x.appeal(k));
            MailPriory none = lists(4);
            Check.throwsForEach("the mail", INDEX, notBelow(0), k -> none.appeal(k));
        });
        Sentences.test("Throws `IllegalStateException` if it is not HELD, there was an appeal for "
                + "it, or there are fewer than three jurors", () -> {
            MailPriory x = mailOfEachState();
            Check.throwsForEach("not HELD", STATE, AT_NOT_HELD, k -> x.appeal(k));
            Check.throwsOf("appealed", STATE, () -> x.appeal(AT_APPEALED));
            fewerThanThreeJurors();
        });
    }

    private static void fewerThanThreeJurors() {
        MailPriory x = lists(1);
        sendHeld(x, 9, 0);
        sendHeld(x, 1, 0);
        Check.throwsOf("none", STATE, () -> x.appeal(0));
        x.list(1);
        Check.throwsOf("one", STATE, () -> x.appeal(0));
        x.list(2);
        Check.throwsOf("two", STATE, () -> x.appeal(0));
        x.list(2);
        x.list(9);
        Check.throwsOf("two, one of them by two lists, and the sender", STATE, () -> x.appeal(0));
        Check.equal("no appeal was made by that", x.lapses(0), 7);
        x.list(3);
        Check.equal("three", x.appeal(0), Check.set(1, 2, 3));
        Check.equal("three without 1, but with 9", x.appeal(1), Check.set(2, 3, 9));
    }

    private static void vote() {
        Sentences.test("A juror votes", () -> {
            MailPriory x = lists(4);
            sendHeld(x, 9, 0);
            x.appeal(0);
            x.vote(0, 2, false);
            Check.equal("the others are asked", x.jurors(0), Check.set(1, 3));
            Check.equal("the juror has judged", x.judged(2), 1);
            Check.equal("the others have not", x.judged(1) + x.judged(3), 0);
        });
        Sentences.test("`mail`: the number of the mail", () -> {
            MailPriory x = lists(4);
            for (int mail = 0; mail < 3; mail++) {
                sendHeld(x, 9, mail);
                x.appeal(mail);
            }
            Check.throwsOf("-1", INDEX, () -> x.vote(-1, 3, true));
            Check.throwsOf("3", INDEX, () -> x.vote(3, 3, true));
            Check.equal("the first", x.vote(0, 3, true), HELD);
            Check.equal("the last", x.vote(2, 3, true), HELD);
            Check.equal("not of the other", x.jurors(1), Check.set(0, 2, 3));
        });
        Sentences.test("`person`: the juror, 0 to 15", () -> {
            MailPriory x = new MailPriory();
            x.word(0, 50);
            for (int lister : new int[] {8, 0, 15, 7}) {
                x.list(lister);
            }
            sendHeld(x, 9, 0);
            x.appeal(0);
            Check.throwsOf("the person -1", INDEX, () -> x.vote(0, -1, true));
            Check.throwsOf("the person 16", INDEX, () -> x.vote(0, 16, true));
            Check.equal("the person 0", x.vote(0, 0, true), HELD);
            Check.equal("the person 15", x.vote(0, 15, true), PASSED);
        });
        Sentences.test("`isFor`: whether the vote is for the sender", () -> {
            MailPriory x = lists(4);
            sendHeld(x, 9, 0);
            sendHeld(x, 10, 0);
            x.appeal(0);
            x.appeal(1);
            Check.equal("for", voteTwice(x, 0, true), PASSED);
            Check.equal("cleared", x.weight(9), -10);
            Check.equal("against", voteTwice(x, 1, false), CONDEMNED);
            Check.equal("not cleared", x.weight(10), 5);
        });
        Sentences.test("Returns the state of the mail then", () -> {
            MailPriory x = lists(4);
            for (int mail = 0; mail < 2; mail++) {
                sendHeld(x, 9 + mail, 0);
                x.appeal(mail);
                Check.equal("one vote", x.vote(mail, 1, true), HELD);
                Check.equal("one of each", x.vote(mail, 2, false), HELD);
                Check.equal("the third", x.vote(mail, 3, mail == 0), mail == 0 ? PASSED : CONDEMNED);
            }
        });
    }

    private static void voteThrows() {
        Sentences.test("Throws `IndexOutOfBoundsException` if there is no such mail or person", () -> {
            MailPriory x = mailOfEachState();
            Check.throwsForEach("the mail", INDEX, notBelow(8), k -> x.vote(k, 2, true));
            Check.throwsForEach("the person", INDEX, NO_PERSONS,
                    k -> x.vote(AT_APPEALED, k, true));
            Check.equal("nobody voted", x.jurors(AT_APPEALED), Check.set(2, 3, 4));
        });
        Sentences.test("Throws `IllegalStateException` if no appeal for it is open, or the person is "
                + "no juror of it, or has voted", () -> {
            MailPriory x = mailOfEachState();
            for (int juror = 0; juror < 16; juror++) {
                int voter = juror;
                Check.throwsForEach("not open", STATE, AT_NOT_HELD, k -> x.vote(k, voter, true));
                Check.throwsOf("never open", STATE, () -> x.vote(AT_HELD, voter, false));
                if (juror < 2 || juror > 4) {
                    Check.throwsOf("no juror", STATE, () -> x.vote(AT_APPEALED, voter, true));
                }
            }
            Check.equal("a juror", x.vote(AT_APPEALED, 3, true), HELD);
            Check.throwsOf("has voted", STATE, () -> x.vote(AT_APPEALED, 3, true));
            Check.throwsOf("so or so", STATE, () -> x.vote(AT_APPEALED, 3, false));
            Check.equal("judged here and once before", x.judged(3), 2);
            Check.equal("the last vote", x.vote(AT_APPEALED, 4, true), PASSED);
            Check.throwsOf("not open any more", STATE, () -> x.vote(AT_APPEALED, 2, true));
        });
    }
}
