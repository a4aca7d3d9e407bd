/** A test for each sentence of the promises 18 to 25: what is told of mails. */
final class StatesSentences extends Given {
    private StatesSentences() {
    }

    static void test() {
        Sentences.under("Promise 18: state");
        state();
        Sentences.under("Promise 19: cause");
        cause();
        Sentences.under("Promise 20: score");
        score();
        Sentences.under("Promise 21: lapses");
        lapses();
        Sentences.under("Promise 22: jurors");
        jurors();
        Sentences.under("Promise 23: reached");
        reached();
        Sentences.under("Promise 24: mails");
        mails();
        Sentences.under("Promise 25: held");
        held();
    }

    private static int ask(MailPriory x, String name, int mail) {
        switch (name) {
            case "state": return x.state(mail);
            case "cause": return x.cause(mail);
            case "score": return x.score(mail);
            case "lapses": return x.lapses(mail);
            case "jurors": return x.jurors(mail);
            case "reached": return x.reached(mail);
            default: throw new AssertionError(name);
        }
    }

    /** The number of a mail is 0 up to one less than there are mails; due are the first and last. */
    private static void takesNumbers(String name, int first, int last) {
        MailPriory x = mailOfEachState();
        Check.throwsOf("-1", INDEX, () -> ask(x, name, -1));
        Check.throwsOf("8", INDEX, () -> ask(x, name, 8));
        Check.equal("the first", ask(x, name, 0), first);
        Check.equal("the last", ask(x, name, 7), last);
    }

    private static void throwsWithoutMail(String name) {
        MailPriory x = mailOfEachState();
        Check.throwsForEach("of eight mails", INDEX, notBelow(8), k -> ask(x, name, k));
        MailPriory none = lists(1);
        Check.throwsForEach("of none", INDEX, notBelow(0), k -> ask(none, name, k));
        MailPriory all = lists(1);
        sendMany(all, 0, 80);
        Check.throwsForEach("of 80", INDEX, notBelow(80), k -> ask(all, name, k));
    }

    private static void state() {
        Sentences.test("Returns the state of a mail", () -> {
            MailPriory x = lists(1);
            sendHeld(x, 9, 0);
            sendHeld(x, 9, 0);
            Check.equal("held", x.state(0), HELD);
            x.approve(0);
            Check.equal("let pass", x.state(0), PASSED);
            Check.equal("the other is held", x.state(1), HELD);
        });
        Sentences.test("`mail`: its number", () -> takesNumbers("state", PASSED, HELD));
        Sentences.test("Returns PASSED, HELD, LAPSED or CONDEMNED", () -> {
            MailPriory x = mailOfEachState();
            int[] due = {PASSED, LAPSED, PASSED, CONDEMNED, PASSED, CONDEMNED, HELD, HELD};
            for (int mail = 0; mail < 8; mail++) {
                Check.equal("of " + mail, x.state(mail), due[mail]);
            }
        });
        Sentences.test("Throws `IndexOutOfBoundsException` if there is no such mail",
                () -> throwsWithoutMail("state"));
    }

    private static void cause() {
        Sentences.test("Returns the cause for which a mail was held, whatever its state is now", () -> {
            MailPriory x = mailOfEachState();
            for (int mail = 1; mail < 8; mail++) {
                Check.equal("of " + mail, x.cause(mail), SCORE);
            }
            x.bar(0, 9);
            x.rules(0, 200, 7, true);
            Check.equal("whatever the rules are now", x.cause(AT_HELD), SCORE);
            Check.equal("nor is there one by them", x.cause(AT_PASSED), NONE);
        });
        Sentences.test("`mail`: its number", () -> takesNumbers("cause", NONE, SCORE));
        Sentences.test("Returns BARRED, STRANGER or SCORE; NONE if it passed at once", () -> {
            MailPriory x = lists(2);
            x.bar(0, 9);
            x.rules(1, 10, 7, true);
            sendPassed(x, 9, 0);
            sendPassed(x, 10, 1);
            sendHeld(x, 10, 0);
            sendPassed(x, 10, 0);
            int[] due = {BARRED, STRANGER, SCORE, NONE};
            for (int mail = 0; mail < 4; mail++) {
                Check.equal("of " + mail, x.cause(mail), due[mail]);
            }
            x.approve(0);
            x.refuse(1);
            x.pass(7);
            for (int mail = 0; mail < 4; mail++) {
                Check.equal("of " + mail + " when none is held", x.cause(mail), due[mail]);
            }
        });
        Sentences.test("Throws `IndexOutOfBoundsException` if there is no such mail",
                () -> throwsWithoutMail("cause"));
    }

    private static void score() {
        Sentences.test("Returns the score of a mail", () -> {
            MailPriory x = mailOfEachState();
            Check.equal("of one that passed", x.score(AT_PASSED), -20);
            Check.equal("of one that lapsed, a mail earlier", x.score(AT_LAPSED), 51);
            Check.equal("of one that was cleared", x.score(AT_CLEARED), 50);
        });
        Sentences.test("`mail`: its number", () -> takesNumbers("score", -20, 50));
        Sentences.test("Returns the score", () -> {
            MailPriory x = new MailPriory();
            x.list(0);
            for (int word = 0; word < 20; word++) {
                x.word(word, -20);
            }
            x.send(9, 0, 1048575, NONE);
            x.send(9, 0, 0, 0);
            x.send(9, 0, 0, NONE);
            for (int word = 0; word < 20; word++) {
                x.word(word, 50);
            }
            x.send(10, 0, 1048575, NONE);
            Check.equal("a low one", x.score(0), -400);
            Check.equal("an answer below 0", x.score(1), -2);
            Check.equal("two mails earlier", x.score(2), 2);
            Check.equal("a high one", x.score(3), 1000);
        });
        Sentences.test("Throws `IndexOutOfBoundsException` if there is no such mail",
                () -> throwsWithoutMail("score"));
    }

    private static void lapses() {
        Sentences.test("Returns the day on which a mail lapses, if it is not appealed", () -> {
            MailPriory x = lists(4);
            x.pass(5);
            sendHeld(x, 9, 0);
            Check.equal("the day", x.lapses(0), 12);
            x.pass(6);
            Check.equal("the same on later days", x.lapses(0), 12);
            Check.equal("it is held up to then", x.state(0), HELD);
            x.pass(1);
            Check.equal("and lapses then", x.state(0), LAPSED);
        });
        Sentences.test("`mail`: its number", () -> takesNumbers("lapses", NONE, 30));
        Sentences.test("Returns the day, perhaps above 400; NONE if it is not HELD, or an appeal for "
                + "it is or was open", () -> {
            MailPriory x = mailOfEachState();
            for (int mail : AT_NOT_HELD) {
                Check.equal("not HELD: " + mail, x.lapses(mail), NONE);
            }
            Check.equal("an appeal is open", x.lapses(AT_APPEALED), NONE);
            x.vote(AT_APPEALED, 2, true);
            Check.equal("half judged", x.lapses(AT_APPEALED), NONE);
            x.vote(AT_APPEALED, 3, true);
            Check.equal("an appeal was open", x.lapses(AT_APPEALED), NONE);
            Check.equal("HELD, none appealed", x.lapses(AT_HELD), 30);
            lapsesAbove400();
        });
        Sentences.test("Throws `IndexOutOfBoundsException` if there is no such mail",
                () -> throwsWithoutMail("lapses"));
    }

    private static void lapsesAbove400() {
        MailPriory x = lists(1);
        passTo(x, 0, 393);
        sendHeld(x, 9, 0);
        x.pass(1);
        sendHeld(x, 9, 0);
        x.rules(0, 10, 30, false);
        passTo(x, 394, 399);
        sendHeld(x, 9, 0);
        Check.equal("the last day", x.lapses(0), 400);
        Check.equal("one more", x.lapses(1), 401);
        Check.equal("far above", x.lapses(2), 429);
        Check.equal("the first lapses", x.pass(1), 1);
        sendHeld(x, 9, 0);
        Check.equal("the highest", x.lapses(3), 430);
        Check.equal("the others never lapse", x.held(), 3);
    }

    private static void jurors() {
        Sentences.test("Returns the jurors of an appeal who have not voted", () -> {
            MailPriory x = lists(4);
            sendHeld(x, 9, 0);
            x.appeal(0);
            Check.equal("all three", x.jurors(0), Check.set(1, 2, 3));
            x.vote(0, 3, true);
            Check.equal("two", x.jurors(0), Check.set(1, 2));
            x.vote(0, 1, false);
            Check.equal("one", x.jurors(0), Check.set(2));
        });
        Sentences.test("`mail`: the number of the mail", () -> {
            takesNumbers("jurors", 0, 0);
            MailPriory x = lists(4);
            sendHeld(x, 9, 0);
            sendHeld(x, 9, 1);
            x.appeal(0);
            x.appeal(1);
            Check.equal("the first", x.jurors(0), Check.set(1, 2, 3));
            Check.equal("the last", x.jurors(1), Check.set(0, 2, 3));
        });
        Sentences.test("Returns the persons, as a set; 0 if no appeal for it is open", () -> {
            MailPriory x = mailOfEachState();
            for (int mail : AT_NOT_HELD) {
                Check.equal("none is open for " + mail, x.jurors(mail), 0);
            }
            Check.equal("none was for the last", x.jurors(AT_HELD), 0);
            Check.equal("one is open", x.jurors(AT_APPEALED), 4 + 8 + 16);
            voteTwice(x, AT_APPEALED, false);
            Check.equal("none any more, though 4 has not voted", x.jurors(AT_APPEALED), 0);
        });
        Sentences.test("Throws `IndexOutOfBoundsException` if there is no such mail",
                () -> throwsWithoutMail("jurors"));
    }

    private static void reached() {
        Sentences.test("Returns the persons whom a mail has reached", () -> {
            MailPriory x = lists(2);
            x.join(0, 8, DIRECT);
            x.join(0, 7, DIGEST);
            x.join(1, 6, DIRECT);
            sendPassed(x, 9, 0);
            sendHeld(x, 9, 0);
            Check.equal("at once", x.reached(0), Check.set(7, 8));
            Check.equal("none as long as it is held", x.reached(1), 0);
            x.approve(1);
            Check.equal("then", x.reached(1), Check.set(7, 8));
            x.read(8);
            x.leave(0, 7);
            x.nest(0, 1);
            Check.equal("whatever is read or changed", x.reached(0), Check.set(7, 8));
        });
        Sentences.test("`mail`: its number", () -> takesNumbers("reached", Check.set(8), 0));
        Sentences.test("Returns the persons, as a set", () -> {
            MailPriory x = lists(1);
            sendPassed(x, 9, 0);
            Check.equal("nobody", x.reached(0), 0);
            x.join(0, 0, DIRECT);
            sendPassed(x, 9, 0);
            Check.equal("the person 0", x.reached(1), 1);
            x.leave(0, 0);
            x.join(0, 15, DIGEST);
            sendPassed(x, 9, 0);
            Check.equal("the person 15", x.reached(2), 32768);
            for (int person = 0; person < 15; person++) {
                x.join(0, person, person % 2);
            }
            sendPassed(x, 9, 0);
            Check.equal("all but the sender", x.reached(3), 65535 - 512);
        });
        Sentences.test("Throws `IndexOutOfBoundsException` if there is no such mail",
                () -> throwsWithoutMail("reached"));
    }

    private static void mails() {
        Sentences.test("Returns the number of mails", () -> {
            MailPriory x = lists(1);
            for (int mail = 0; mail < 80; mail++) {
                Check.equal("up to now", x.mails(), mail);
                x.send(9, 0, mail % 2, NONE);
            }
            Check.equal("all", x.mails(), 80);
            Check.throwsOf("no more", STATE, () -> x.send(9, 0, 0, NONE));
            x.pass(50);
            Check.equal("those that lapsed too", x.mails(), 80);
        });
    }

    private static void held() {
        Sentences.test("Returns how many mails are HELD", () -> {
            MailPriory x = lists(4);
            Check.equal("of none", x.held(), 0);
            sendPassed(x, 9, 0);
            Check.equal("not those that pass", x.held(), 0);
            for (int mail = 1; mail < 6; mail++) {
                sendHeld(x, 9 + mail, 0);
                Check.equal("each", x.held(), mail);
            }
            x.approve(1);
            Check.equal("not the one let pass", x.held(), 4);
            x.refuse(2);
            Check.equal("not the refused one", x.held(), 3);
            x.appeal(3);
            x.appeal(4);
            Check.equal("those appealed for too", x.held(), 3);
            voteTwice(x, 3, true);
            Check.equal("not the cleared one", x.held(), 2);
            voteTwice(x, 4, false);
            Check.equal("not the condemned one", x.held(), 1);
            x.pass(7);
            Check.equal("not the one that lapsed", x.held(), 0);
            MailPriory full = lists(1);
            for (int mail = 0; mail < 80; mail++) {
                sendHeld(full, 9, 0);
            }
            Check.equal("all 80", full.held(), 80);
        });
    }
}
