import java.util.function.IntUnaryOperator;

/** A test for each sentence of the promises 26 to 31: weights, votes, bounces and boxes. */
final class PersonsSentences extends Given {
    private PersonsSentences() {
    }

    static void test() {
        Sentences.under("Promise 26: weight");
        weight();
        Sentences.under("Promise 27: judged");
        judged();
        Sentences.under("Promise 28: bounces");
        bounces();
        Sentences.under("Promise 29: box");
        box();
        Sentences.under("Promise 30: mailAt");
        mailAt();
        Sentences.under("Promise 31: read");
        read();
    }

    private static void takesPersons(IntUnaryOperator call, int of0, int of15) {
        Check.throwsOf("the person -1", INDEX, () -> call.applyAsInt(-1));
        Check.throwsOf("the person 16", INDEX, () -> call.applyAsInt(16));
        Check.equal("the person 0", call.applyAsInt(0), of0);
        Check.equal("the person 15", call.applyAsInt(15), of15);
    }

    private static void weight() {
        Sentences.test("Returns the weight of a person", () -> {
            MailPriory x = mailOfEachState();
            Check.equal("the sender of the condemned mail", x.weight(13), 5);
            Check.equal("the sender of the cleared mail", x.weight(12), -10);
            Check.equal("the sender of the refused mail", x.weight(11), 0);
            Check.equal("a juror", x.weight(1), 0);
        });
        Sentences.test("`person`: 0 to 15", () -> {
            MailPriory x = lists(5);
            sendHeld(x, 0, 1);
            sendHeld(x, 15, 1);
            appealAndVote(x, 0, false);
            appealAndVote(x, 1, true);
            takesPersons(x::weight, 5, -10);
        });
        Sentences.test("Returns the weight", () -> {
            MailPriory x = lists(4);
            for (int mail = 0; mail < 20; mail++) {
                Check.equal("5 for each", x.weight(9), 5 * mail);
                sendHeld(x, 9, 0);
                appealAndVote(x, mail, false);
            }
            Check.equal("the highest", x.weight(9), 100);
            sendHeld(x, 9, 0);
            appealAndVote(x, 20, false);
            Check.equal("not above it", x.weight(9), 100);
            sendHeld(x, 9, 0);
            appealAndVote(x, 21, true);
            Check.equal("the lowest", x.weight(9), -10);
        });
        Sentences.test("Throws `IndexOutOfBoundsException` if there is no such person", () -> {
            MailPriory x = new MailPriory();
            Check.throwsForEach("the person", INDEX, NO_PERSONS, x::weight);
        });
    }

    private static void judged() {
        Sentences.test("Returns how often a person has judged: how many votes the person has cast",
                () -> {
            MailPriory x = lists(4);
            sendHeld(x, 9, 0);
            sendHeld(x, 9, 0);
            x.appeal(0);
            x.appeal(1);
            Check.equal("asked twice, but no vote cast", x.judged(1), 0);
            x.vote(0, 1, true);
            Check.equal("a vote for", x.judged(1), 1);
            x.vote(1, 1, false);
            Check.equal("a vote against", x.judged(1), 2);
            Check.throwsOf("a vote that is not taken", STATE, () -> x.vote(1, 1, false));
            Check.equal("is none", x.judged(1), 2);
            x.vote(1, 2, false);
            Check.equal("the deciding vote is one", x.judged(2), 1);
            Check.equal("not to have been needed is none", x.judged(3), 0);
        });
        Sentences.test("`person`: 0 to 15", () -> {
            MailPriory x = new MailPriory();
            x.word(0, 50);
            for (int lister : new int[] {7, 0, 15, 8}) {
                x.list(lister);
            }
            sendHeld(x, 9, 0);
            sendHeld(x, 10, 0);
            x.appeal(0);
            x.appeal(1);
            x.vote(0, 0, true);
            x.vote(0, 15, false);
            x.vote(1, 15, false);
            takesPersons(x::judged, 1, 2);
        });
        Sentences.test("Returns the votes", () -> {
            MailPriory x = lists(4);
            for (int mail = 0; mail < 80; mail++) {
                sendHeld(x, 9, 0);
            }
            for (int mail = 0; mail < 40; mail++) {
                x.appeal(mail);
                x.vote(mail, 3, mail % 2 == 0);
                Check.equal("one for each", x.judged(3), mail + 1);
                x.vote(mail, 1, mail % 2 == 1);
                x.vote(mail, 2, false);
            }
            Check.equal("2 too", x.judged(2), 40);
            Check.equal("no lister of that list", x.judged(0), 0);
        });
        Sentences.test("Throws `IndexOutOfBoundsException` if there is no such person", () -> {
            MailPriory x = new MailPriory();
            Check.throwsForEach("the person", INDEX, NO_PERSONS, x::judged);
        });
    }

    private static void bounces() {
        Sentences.test("Returns the bounces of a person", () -> {
            MailPriory x = lists(2);
            x.join(0, 8, DIRECT);
            x.join(1, 7, DIRECT);
            sendMany(x, 0, 11);
            sendMany(x, 1, 10);
            Check.equal("one mail too many", x.bounces(8), 1);
            Check.equal("none too many", x.bounces(7), 0);
            sendPassed(x, 7, 1);
            Check.equal("the own mail does not bounce", x.bounces(7), 0);
        });
        Sentences.test("`person`: 0 to 15", () -> {
            MailPriory x = lists(1);
            x.join(0, 15, DIRECT);
            sendPassed(x, 9, 0);
            x.join(0, 0, DIRECT);
            for (int mail = 0; mail < 11; mail++) {
                sendPassed(x, 9, 0);
            }
            takesPersons(x::bounces, 1, 2);
        });
        Sentences.test("Returns 0 to 2", () -> {
            MailPriory x = lists(1);
            x.join(0, 8, DIRECT);
            sendMany(x, 0, 10);
            int[] due = {1, 2, 0, 0, 1, 2, 0};
            for (int bounce = 0; bounce < 7; bounce++) {
                if (bounce == 4) {
                    x.mode(0, 8, DIRECT);
                }
                sendPassed(x, 9, 0);
                Check.equal("behind mail " + (10 + bounce), x.bounces(8), due[bounce]);
            }
            Check.equal("one went to the digest", x.size(0, 0), 1);
        });
        Sentences.test("Throws `IndexOutOfBoundsException` if there is no such person", () -> {
            MailPriory x = new MailPriory();
            Check.throwsForEach("the person", INDEX, NO_PERSONS, x::bounces);
        });
    }

    private static void box() {
        Sentences.test("Returns how many mails are in the box of a person", () -> {
            MailPriory x = lists(1);
            x.join(0, 8, DIRECT);
            x.join(0, 7, DIGEST);
            sendPassed(x, 9, 0);
            sendPassed(x, 9, 0);
            sendHeld(x, 9, 0);
            sendPassed(x, 8, 0);
            Check.equal("two came", x.box(8), 2);
            x.read(8);
            Check.equal("one was read", x.box(8), 1);
            Check.equal("not those of digests", x.box(7), 0);
        });
        Sentences.test("`person`: 0 to 15", () -> {
            MailPriory x = lists(1);
            x.join(0, 15, DIRECT);
            sendPassed(x, 9, 0);
            x.join(0, 0, DIRECT);
            sendPassed(x, 9, 0);
            takesPersons(x::box, 1, 2);
        });
        Sentences.test("Returns 0 to 10", () -> {
            MailPriory x = lists(1);
            x.join(0, 8, DIRECT);
            for (int mail = 0; mail < 14; mail++) {
                Check.equal("at most 10", x.box(8), Math.min(mail, 10));
                sendPassed(x, 9, 0);
            }
            for (int left = 10; left > 0; left--) {
                Check.equal("one less", x.box(8), left);
                x.read(8);
            }
            Check.equal("none", x.box(8), 0);
            x.read(8);
            Check.equal("not below", x.box(8), 0);
        });
        Sentences.test("Throws `IndexOutOfBoundsException` if there is no such person", () -> {
            MailPriory x = new MailPriory();
            Check.throwsForEach("the person", INDEX, NO_PERSONS, x::box);
        });
    }

    private static void mailAt() {
        Sentences.test("Returns a mail in the box of a person", () -> {
            MailPriory x = lists(2);
            x.join(0, 8, DIRECT);
            x.join(1, 7, DIRECT);
            sendPassed(x, 9, 0);
            sendPassed(x, 9, 1);
            sendPassed(x, 9, 0);
            Check.equal("of 8", x.mailAt(8, 1), 2);
            Check.equal("of 7", x.mailAt(7, 0), 1);
            Check.equal("it stays in it", x.box(8), 2);
            Check.equal("and is told again", x.mailAt(8, 1), 2);
        });
        Sentences.test("`person`: 0 to 15", () -> {
            MailPriory x = lists(1);
            x.join(0, 0, DIRECT);
            sendPassed(x, 9, 0);
            x.leave(0, 0);
            x.join(0, 15, DIRECT);
            sendPassed(x, 9, 0);
            takesPersons(k -> x.mailAt(k, 0), 0, 1);
        });
        Sentences.test("`place`: 0 for the first one", () -> {
            MailPriory x = lists(1);
            x.join(0, 8, DIRECT);
            sendMany(x, 0, 10);
            Check.throwsOf("the place -1", INDEX, () -> x.mailAt(8, -1));
            Check.equal("the first", x.mailAt(8, 0), 0);
            Check.equal("the tenth", x.mailAt(8, 9), 9);
            Check.throwsOf("the place 10", INDEX, () -> x.mailAt(8, 10));
            x.read(8);
            Check.equal("the first of those left", x.mailAt(8, 0), 1);
            Check.equal("the last of them", x.mailAt(8, 8), 9);
            Check.throwsOf("the place 9 now", INDEX, () -> x.mailAt(8, 9));
        });
        Sentences.test("Returns its number", () -> {
            MailPriory x = lists(1);
            x.join(0, 8, DIRECT);
            sendHeld(x, 9, 0);
            sendPassed(x, 9, 0);
            sendHeld(x, 9, 0);
            x.approve(2);
            x.approve(0);
            int[] due = {1, 2, 0};
            for (int place = 0; place < 3; place++) {
                Check.equal("as they came", x.mailAt(8, place), due[place]);
            }
        });
        Sentences.test("Throws `IndexOutOfBoundsException` if there is no such person or place", () -> {
            MailPriory x = lists(1);
            x.join(0, 8, DIRECT);
            x.join(0, 15, DIRECT);
            sendMany(x, 0, 3);
            Check.throwsForEach("the person", INDEX, NO_PERSONS, k -> x.mailAt(k, 0));
            Check.throwsForEach("the place", INDEX, notBelow(3), k -> x.mailAt(8, k));
            Check.throwsForEach("an empty box", INDEX, notBelow(0), k -> x.mailAt(7, k));
            for (int mail = 0; mail < 3; mail++) {
                x.read(8);
            }
            Check.throwsForEach("a box read empty", INDEX, notBelow(0), k -> x.mailAt(8, k));
        });
    }

    private static void read() {
        Sentences.test("A person reads the first mail in the box, which is not in it any more", () -> {
            MailPriory x = lists(1);
            x.join(0, 8, DIRECT);
            x.join(0, 7, DIRECT);
            sendMany(x, 0, 3);
            x.read(8);
            Check.equal("one less", x.box(8), 2);
            Check.equal("the second is the first now", x.mailAt(8, 0), 1);
            Check.equal("the third is the second", x.mailAt(8, 1), 2);
            Check.equal("not in another box", x.box(7), 3);
            Check.equal("it has reached the person as before", x.reached(0), Check.set(7, 8));
        });
        Sentences.test("`person`: 0 to 15", () -> {
            MailPriory x = lists(1);
            x.join(0, 15, DIRECT);
            sendPassed(x, 9, 0);
            x.leave(0, 15);
            x.join(0, 0, DIRECT);
            sendPassed(x, 9, 0);
            takesPersons(x::read, 1, 0);
        });
        Sentences.test("Returns its number; NONE if there is none", () -> {
            MailPriory x = lists(1);
            Check.equal("none came", x.read(8), NONE);
            x.join(0, 8, DIRECT);
            sendMany(x, 0, 11);
            for (int mail = 0; mail < 10; mail++) {
                Check.equal("as they came", x.read(8), mail);
            }
            Check.equal("all are read", x.read(8), NONE);
            Check.equal("and again", x.read(8), NONE);
            sendPassed(x, 9, 0);
            Check.equal("a new one", x.read(8), 11);
            Check.equal("all are read again", x.read(8), NONE);
        });
        Sentences.test("Throws `IndexOutOfBoundsException` if there is no such person", () -> {
            MailPriory x = lists(1);
            x.join(0, 0, DIRECT);
            x.join(0, 15, DIRECT);
            sendPassed(x, 9, 0);
            Check.throwsForEach("the person", INDEX, NO_PERSONS, x::read);
            Check.equal("nothing was read", x.box(0) + x.box(15), 2);
        });
    }
}
