import java.util.NoSuchElementException;

/** A test for each sentence under "What it is" and "Terms": days, lists, scores and mails. */
final class TermsSentences extends Given {
    private TermsSentences() {
    }

    static void test() {
        Sentences.under("What it is");
        whatItIs();
        Sentences.under("Terms");
        aims();
        exceptions();
        personsAndDays();
        lists();
        modes();
        scores();
        mails();
        passing();
        boxes();
        toDigests();
        TermsOfHoldsSentences.test();
    }

    private static void whatItIs() {
        Sentences.noTest("A mail server with lists in lists, boxes that fill, digests by days that "
                + "are made again, a filter that scores mails by words, senders, haste and answers, "
                + "holds that lapse, and a court of listers to whom senders appeal, who clear them "
                + "or not");
        Sentences.test("An object is used for at most 512 calls after it has been made; what later "
                + "calls answer is free", () -> {
            MailPriory x = new MailPriory();
            int before = 0;
            for (int call = 1; call <= 511; call++) {
                Check.equal("call " + call, x.word(19, call % 51), before);
                before = call % 51;
            }
            Check.equal("call 512", x.word(19, 0), before);
        });
    }

    private static void aims() {
        Sentences.noTest("The calls tell lists, members, weights and days, are the mails, votes and "
                + "readings that come, and ask for boxes, digests, scores, holds and who is reached");
        Sentences.test("The aim is that each mail reaches each member once, or is held for a told "
                + "cause", () -> {
            MailPriory x = lists(4);
            x.nest(0, 1);
            x.nest(0, 2);
            x.nest(1, 3);
            x.nest(2, 3);
            for (int list = 0; list < 4; list++) {
                x.join(list, 8, DIRECT);
                x.join(list, 9, DIGEST);
            }
            sendPassed(x, 10, 0);
            Check.equal("once in the box", x.box(8), 1);
            Check.equal("reached", x.reached(0), Check.set(8, 9));
            Check.equal("in one digest", x.size(0, 0), 1);
            for (int list = 1; list < 4; list++) {
                Check.equal("not in the digest of " + list, x.size(list, 0), 0);
            }
            sendHeld(x, 10, 0);
            Check.equal("held", x.state(1), HELD);
            Check.equal("for a cause", x.cause(1), SCORE);
            Check.equal("and reaches nobody", x.reached(1), 0);
        });
    }

    private static void exceptions() {
        Sentences.test("If several exceptions apply to a call, the one that its comment lists first "
                + "is thrown", () -> {
            listedFirstOfLists();
            listedFirstOfMails();
            listedFirstOfDays();
        });
        Sentences.test("A call that throws an exception changes nothing", () -> {
            // UnchangedTest asks everything behind each wrong call by itself; here they come at once.
            MailPriory x = mailOfEachState();
            MailPriory untouched = mailOfEachState();
            Wrong.makeAll(x);
            for (Call call : Call.questions(5, 8, 3).subList(0, 350)) {
                Check.isTrue("behind wrong calls: " + call, call.on(x).equals(call.on(untouched)));
            }
        });
    }

    private static void listedFirstOfLists() {
        MailPriory x = lists(10);
        x.join(0, 8, DIRECT);
        Check.throwsOf("list: no person, 10 lists", INDEX, () -> x.list(16));
        Check.throwsOf("join: no list, no mode", INDEX, () -> x.join(10, 8, 2));
        Check.throwsOf("join: no person, no mode", INDEX, () -> x.join(0, 16, 2));
        Check.throwsOf("join: no mode, a member", ARGUMENT, () -> x.join(0, 8, 2));
        Check.throwsOf("leave: no person, no member", INDEX, () -> x.leave(0, 16));
        Check.throwsOf("leave: no list, no member", INDEX, () -> x.leave(10, 9));
        Check.throwsOf("mode: no list, no mode", INDEX, () -> x.mode(10, 8, 2));
        Check.throwsOf("mode: no person, no mode, no member", INDEX, () -> x.mode(0, 16, 2));
        Check.throwsOf("mode: no mode, no member", ARGUMENT, () -> x.mode(0, 9, 2));
        Check.throwsOf("nest: no list, in itself", INDEX, () -> Check.toInt(x.nest(10, 10)));
        Check.throwsOf("rules: no list, no limit", INDEX, () -> x.rules(10, 0, 7, false));
        Check.throwsOf("rules: no list, no patience", INDEX, () -> x.rules(-1, 9, 31, false));
        Check.throwsOf("word: no word, no weight", INDEX, () -> x.word(20, 51));
    }

    private static void listedFirstOfMails() {
        MailPriory x = lists(4);
        sendHeld(x, 9, 0);
        Check.throwsOf("send: no person, no words", INDEX, () -> x.send(16, 0, -1, NONE));
        Check.throwsOf("send: no list, no words", INDEX, () -> x.send(9, 4, -1, NONE));
        Check.throwsOf("send: no mail, no words", INDEX, () -> x.send(9, 0, 1048576, 1));
        Check.throwsOf("vote: no mail, no juror", INDEX, () -> x.vote(1, 1, true));
        Check.throwsOf("vote: no person, no appeal", INDEX, () -> x.vote(0, 16, true));
        x.appeal(0);
        Check.throwsOf("vote: no person, no juror", INDEX, () -> x.vote(0, -1, true));
        sendMany(x, 1, 79);
        Check.equal("mails", x.mails(), 80);
        Check.throwsOf("send: no person, 80 mails", INDEX, () -> x.send(-1, 0, 0, NONE));
        Check.throwsOf("send: no list, 80 mails", INDEX, () -> x.send(9, -1, 0, NONE));
        Check.throwsOf("send: no mail, 80 mails", INDEX, () -> x.send(9, 0, 0, 80));
        Check.throwsOf("send: no mail, no words, 80 mails", INDEX, () -> x.send(9, 0, -1, -2));
        Check.throwsOf("send: no words, 80 mails", ARGUMENT, () -> x.send(9, 0, -1, NONE));
        Check.throwsOf("send: 80 mails", STATE, () -> x.send(9, 0, 0, NONE));
    }

    private static void listedFirstOfDays() {
        MailPriory x = lists(1);
        Check.throwsOf("size: no list, no day", INDEX, () -> x.size(1, 1));
        Check.throwsOf("edition: no list, no day", INDEX, () -> x.edition(1, -1));
        Check.throwsOf("readers: no list, no day", INDEX, () -> x.readers(-1, 1));
        Check.throwsOf("digest: no list, no day, no place", INDEX, () -> x.digest(1, 1, 0));
        Check.throwsOf("digest: no list, no place", INDEX, () -> x.digest(1, 0, 0));
        Check.throwsOf("digest: no day, no place", ARGUMENT, () -> x.digest(0, 1, 0));
        Check.throwsOf("mailAt: no person, no place", INDEX, () -> x.mailAt(16, 0));
        passTo(x, 0, 400);
        Check.throwsOf("pass: no such number of days, and too late", ARGUMENT, () -> x.pass(51));
        Check.throwsOf("pass: too late", STATE, () -> x.pass(50));
    }

    private static void personsAndDays() {
        Sentences.test("There are the persons 0 to 15 and the words 0 to 19", () -> {
            MailPriory x = lists(1);
            Check.equal("the person 0", x.join(0, 0, DIRECT), 1);
            Check.equal("the person 15", x.join(0, 15, DIRECT), 2);
            Check.throwsForEach("the person", INDEX, NO_PERSONS, k -> x.join(0, k, DIRECT));
            Check.equal("the word 0", x.word(0, 3), 50);
            Check.equal("the word 19", x.word(19, 4), 0);
            Check.throwsForEach("the word", INDEX, NO_WORDS, k -> x.word(k, 1));
            x.send(9, 0, Check.set(0, 19), NONE);
            Check.equal("both weigh", x.score(0), 7);
        });
        Sentences.test("Days are numbered from 0 to 400; today is the day 0 at first", () -> {
            MailPriory x = lists(1);
            Check.equal("the day 0 is there", x.size(0, 0), 0);
            Check.throwsOf("the day -1", ARGUMENT, () -> x.size(0, -1));
            Check.throwsOf("the day 1 is to come", ARGUMENT, () -> x.size(0, 1));
            passTo(x, 0, 399);
            Check.throwsOf("the day 400 is to come", ARGUMENT, () -> x.size(0, 400));
            Check.equal("a day on", x.pass(1), 0);
            Check.equal("the day 400 is there", x.size(0, 400), 0);
            Check.throwsOf("there is no day 401", STATE, () -> x.pass(1));
            Check.throwsOf("nor is it told", ARGUMENT, () -> x.size(0, 401));
        });
    }

    private static void lists() {
        Sentences.test("At most 10, numbered from 0", () -> {
            MailPriory x = new MailPriory();
            for (int list = 0; list < 10; list++) {
                int number = list;
                Check.throwsOf("the list " + list + " before", INDEX, () -> x.reaches(number));
                Check.equal("the list", x.list(7), list);
                Check.equal("the list " + list + " then", x.reaches(list), 0);
            }
            Check.throwsOf("an eleventh", STATE, () -> x.list(7));
            Check.throwsOf("the list 10", INDEX, () -> x.reaches(10));
        });
        Sentences.test("A list has a lister, a person; members, persons, each with a mode, DIRECT or "
                + "DIGEST; parts, other lists; a limit, 10 at first, and a patience, 7 days at "
                + "first; it is closed, or not, as at first", TermsSentences::listAtFirst);
        Sentences.test("A list is in another one if it is a part of that one, or in a part of it; no "
                + "list is ever in itself", () -> {
            MailPriory x = lists(10);
            for (int list = 0; list < 9; list++) {
                Check.isTrue("a chain", x.nest(list, list + 1));
            }
            x.join(9, 8, DIRECT);
            for (int list = 0; list < 10; list++) {
                int inner = list;
                Check.equal("9 is in " + list, x.reaches(list), Check.set(8));
                Check.throwsOf("0 is not in " + list, ARGUMENT,
                        () -> Check.toInt(x.nest(inner, 0)));
                Check.throwsOf(list + " is not in itself", ARGUMENT,
                        () -> Check.toInt(x.nest(inner, inner)));
            }
        });
        Sentences.test("A list reaches a person who is a member of it, or of a list that is in it",
                () -> {
            MailPriory x = lists(10);
            for (int list = 9; list > 0; list--) {
                x.nest(list, list - 1);
                x.join(list, list, DIRECT);
            }
            x.join(0, 0, DIGEST);
            for (int list = 0; list < 10; list++) {
                Check.equal("those of it and below, not above", x.reaches(list),
                        (1 << (list + 1)) - 1);
            }
        });
    }

    private static void listAtFirst() {
        MailPriory x = new MailPriory();
        x.list(3);
        x.list(4);
        x.word(0, 9);
        x.word(1, 10);
        Check.equal("no members, no parts", x.reaches(0), 0);
        x.send(9, 0, Check.set(0), NONE);
        x.send(10, 0, Check.set(1), NONE);
        x.send(11, 0, Check.set(0), NONE);
        Check.equal("9 is below the limit, and it is not closed", x.cause(0), NONE);
        Check.equal("10 is at the limit", x.cause(1), SCORE);
        Check.equal("nobody is barred", x.cause(2), NONE);
        Check.equal("a patience of 7 days", x.lapses(1), 7);
        Check.equal("six days", x.pass(6), 0);
        Check.equal("the seventh", x.pass(1), 1);
        x.join(0, 5, DIRECT);
        x.join(0, 6, DIGEST);
        Check.equal("a member with the mode DIRECT", x.modeOf(0, 5), DIRECT);
        Check.equal("a member with the mode DIGEST", x.modeOf(0, 6), DIGEST);
        Check.isTrue("another list is a part", x.nest(0, 1));
        Check.throwsOf("it is none itself", ARGUMENT, () -> Check.toInt(x.nest(0, 0)));
        Check.equal("the limit at first", x.rules(0, 10, 7, true), 10);
    }

    private static void modes() {
        Sentences.test("Its mode for such a person is DIRECT, if one of these lists has the person "
                + "as a member with the mode DIRECT, otherwise DIGEST, by the lowest of these lists "
                + "that has the person as a member", () -> {
            MailPriory x = lists(10);
            x.nest(5, 9);
            x.nest(9, 2);
            x.nest(9, 7);
            x.join(0, 8, DIRECT);
            Check.equal("0 is none of these", x.modeOf(5, 8), NONE);
            x.join(7, 8, DIGEST);
            digestIsBy(x, 7);
            x.join(5, 8, DIGEST);
            digestIsBy(x, 5);
            x.join(2, 8, DIGEST);
            digestIsBy(x, 2);
            x.join(9, 8, DIGEST);
            digestIsBy(x, 2);
            for (int list : new int[] {2, 5, 7, 9}) {
                x.mode(list, 8, DIRECT);
                Check.equal("DIRECT by " + list + " alone", x.modeOf(5, 8), DIRECT);
                x.mode(list, 8, DIGEST);
            }
            Check.equal("DIGEST again", x.modeOf(5, 8), DIGEST);
            x.leave(2, 8);
            digestIsBy(x, 5);
        });
    }

    private static void digestIsBy(MailPriory x, int list) {
        int sizeBefore = x.size(list, 0);
        Check.equal("the mode is DIGEST", x.modeOf(5, 8), DIGEST);
        int mail = sendPassed(x, 14, 5);
        Check.equal("it came", x.reached(mail), Check.set(8));
        Check.equal("it came by " + list, x.size(list, 0), sizeBefore + 1);
    }

    private static void scores() {
        Sentences.test("Each word has a weight, 0 at first, and each person one, 0 at first", () -> {
            MailPriory x = new MailPriory();
            x.list(0);
            for (int person = 0; person < 16; person++) {
                Check.equal("the weight of a person", x.weight(person), 0);
            }
            x.send(9, 0, 1048575, NONE);
            Check.equal("all words weigh nothing", x.score(0), 0);
            for (int word = 0; word < 20; word++) {
                Check.equal("the weight of a word", x.word(word, 1), 0);
            }
        });
        Sentences.test("The score of a mail is found when it is sent: the weights of its words, that "
                + "of its sender, 1 for each mail that its sender has sent earlier on this day, and, "
                + "if it answers a mail that has reached its sender, or is by its sender itself, 3 "
                + "less", () -> {
            scoreIsOfItsTime();
            scoreCountsHasteByDays();
            scoreOfAnAnswer();
        });
    }

    private static void scoreIsOfItsTime() {
        MailPriory x = lists(4);
        sendHeld(x, 9, 0);
        sendHeld(x, 9, 1);
        Check.equal("a word", x.score(0), 50);
        Check.equal("a word and a mail earlier", x.score(1), 51);
        appealAndVote(x, 0, false);
        x.word(0, 7);
        Check.equal("the old score stays", x.score(0), 50);
        Check.equal("that of a held mail too", x.score(1), 51);
        x.send(9, 0, Check.set(0, 1), NONE);
        Check.equal("7 - 20, the weight 5, two mails earlier", x.score(2), -6);
        x.send(10, 0, Check.set(1), NONE);
        Check.equal("another sender", x.score(3), -20);
    }

    private static void scoreCountsHasteByDays() {
        MailPriory x = lists(2);
        for (int mail = 0; mail < 10; mail++) {
            x.send(9, mail % 2, 0, NONE);
            Check.equal("1 for each, to any list", x.score(mail), mail);
            Check.equal("less than 10", x.state(mail), PASSED);
        }
        x.send(9, 0, 0, NONE);
        Check.equal("ten earlier", x.score(10), 10);
        Check.equal("held by haste alone", x.cause(10), SCORE);
        x.refuse(10);
        x.send(9, 0, 0, NONE);
        Check.equal("a refused one counts", x.score(11), 11);
        x.send(10, 0, 0, NONE);
        Check.equal("not for another sender", x.score(12), 0);
        x.pass(1);
        x.send(9, 0, 0, NONE);
        Check.equal("none on the next day", x.score(13), 0);
        x.send(9, 0, 0, NONE);
        Check.equal("one on that day", x.score(14), 1);
    }

    private static void scoreOfAnAnswer() {
        MailPriory x = lists(2);
        x.join(0, 8, DIRECT);
        x.join(0, 7, DIGEST);
        x.send(9, 0, 0, NONE);
        x.send(8, 0, 0, 0);
        Check.equal("it is in the box of the sender", x.score(1), -3);
        x.send(7, 0, 0, 0);
        Check.equal("it is in a digest of the sender", x.score(2), -3);
        x.send(6, 0, 0, 0);
        Check.equal("it did not reach the sender", x.score(3), 0);
        x.send(9, 1, 0, 0);
        Check.equal("by the sender itself, one mail earlier", x.score(4), -2);
        sendHeld(x, 5, 0);
        x.send(5, 0, 0, 5);
        Check.equal("by the sender, and held", x.score(6), -2);
        x.send(8, 1, 0, 5);
        Check.equal("held: it reached nobody, one mail earlier", x.score(7), 1);
        x.approve(5);
        x.send(8, 1, 0, 5);
        Check.equal("it has reached the sender now, two mails earlier", x.score(8), -1);
        x.send(8, 1, 0, 1);
        Check.equal("3 less for the own mail too, three mails earlier", x.score(9), 0);
    }

    private static void mails() {
        Sentences.test("At most 80, numbered from 0", () -> {
            MailPriory x = lists(1);
            for (int mail = 0; mail < 80; mail++) {
                int number = mail;
                Check.throwsOf("the mail " + mail + " before", INDEX, () -> x.state(number));
                Check.equal("the mail", x.send(mail % 16, 0, 0, NONE), mail);
                Check.equal("the mail " + mail + " then", x.state(mail), PASSED);
            }
            Check.throwsOf("one more", STATE, () -> x.send(0, 0, 0, NONE));
            Check.throwsOf("the mail 80", INDEX, () -> x.state(80));
        });
        Sentences.test("A mail is sent by a person to a list, and is HELD if one of these causes "
                + "applies, for the first one: BARRED, the list has barred its sender; STRANGER, the "
                + "list is closed, and does not reach its sender; SCORE, its score is at least the "
                + "limit of the list", TermsSentences::firstCause);
        Sentences.test("Otherwise it passes at once", () -> {
            MailPriory x = lists(2);
            x.join(0, 8, DIRECT);
            x.bar(1, 9);
            x.rules(1, 1, 7, true);
            Check.equal("sent", x.send(9, 0, 0, NONE), 0);
            Check.equal("passed, whatever another list asks", x.state(0), PASSED);
            Check.equal("for no cause", x.cause(0), NONE);
            Check.equal("none is held", x.held(), 0);
            Check.equal("it is there", x.mailAt(8, 0), 0);
        });
    }

    /** The list 0 bars, is closed and has the limit 5, or not: all eight ways. */
    private static void firstCause() {
        for (int way = 0; way < 8; way++) {
            MailPriory x = lists(2);
            boolean isBarred = (way & 1) != 0;
            boolean isStranger = (way & 2) != 0;
            boolean isHeavy = (way & 4) != 0;
            if (isBarred) {
                x.bar(0, 9);
            }
            if (!isStranger) {
                x.nest(0, 1);
                x.join(1, 9, DIGEST);
            }
            x.rules(0, 5, 7, true);
            x.word(2, isHeavy ? 5 : 4);
            x.send(9, 0, Check.set(2), NONE);
            int due = isBarred ? BARRED : isStranger ? STRANGER : isHeavy ? SCORE : NONE;
            Check.equal("way " + way + ": cause", x.cause(0), due);
            Check.equal("way " + way + ": state", x.state(0), due == NONE ? PASSED : HELD);
            Check.equal("way " + way + ": score", x.score(0), isHeavy ? 5 : 4);
        }
        MailPriory open = lists(1);
        open.send(9, 0, 0, NONE);
        Check.equal("a stranger to a list that is not closed", open.cause(0), NONE);
    }

    private static void passing() {
        Sentences.test("When a mail passes, it is PASSED, and goes to the persons whom its list "
                + "reaches then, but not to its sender, by rising numbers:", () -> {
            MailPriory x = lists(2);
            x.join(0, 8, DIRECT);
            x.join(0, 9, DIRECT);
            x.join(0, 15, DIGEST);
            sendPassed(x, 9, 0);
            Check.equal("at once", x.state(0), PASSED);
            Check.equal("all but the sender", x.reached(0), Check.set(8, 15));
            Check.equal("nothing in the sender's box", x.box(9), 0);
            sendHeld(x, 15, 0);
            x.leave(0, 8);
            x.nest(0, 1);
            x.join(1, 0, DIRECT);
            x.join(1, 15, DIGEST);
            x.approve(1);
            Check.equal("approved", x.state(1), PASSED);
            Check.equal("those of then, but not the sender", x.reached(1), Check.set(0, 9));
            Check.equal("not those of before", x.box(8), 1);
            Check.equal("nothing in the sender's digest", x.readers(1, 0), 0);
            x.join(0, 8, DIRECT);
            Check.equal("nor those of later", x.box(8), 1);
        });
    }

    private static void boxes() {
        Sentences.test("If the mode is DIRECT, and less than 10 mails are in the person's box, it "
                + "comes into the box, behind the others", () -> {
            MailPriory x = lists(1);
            x.join(0, 8, DIRECT);
            for (int mail = 0; mail < 10; mail++) {
                Check.equal("in the box before", x.box(8), mail);
                sendPassed(x, 9, 0);
                Check.equal("behind the others", x.mailAt(8, mail), mail);
                Check.equal("reached", x.reached(mail), Check.set(8));
            }
            sendPassed(x, 9, 0);
            Check.equal("not into a full one", x.box(8), 10);
            Check.equal("nor to the person", x.reached(10), 0);
            x.read(8);
            sendPassed(x, 9, 0);
            Check.equal("nine were in it", x.mailAt(8, 9), 11);
            Check.equal("the first is the second one now", x.mailAt(8, 0), 1);
        });
        Sentences.test("If 10 are in it, the mail bounces: it never reaches that person, who has 1 "
                + "bounce more; when these are 3, the person has the mode DIGEST in all lists of "
                + "which the person is a member, and 0 bounces", TermsSentences::bouncing);
    }

    private static void bouncing() {
        MailPriory x = lists(5);
        x.join(0, 8, DIRECT);
        x.join(1, 8, DIRECT);
        x.join(2, 8, DIGEST);
        x.join(4, 8, DIRECT);
        x.join(0, 7, DIRECT);
        x.nest(3, 4);
        sendMany(x, 1, 9);
        sendPassed(x, 9, 0);
        Check.equal("the tenth does not bounce", x.bounces(8), 0);
        for (int bounce = 1; bounce <= 2; bounce++) {
            int mail = sendPassed(x, 9, 0);
            Check.equal("1 more", x.bounces(8), bounce);
            Check.equal("it reaches the others alone", x.reached(mail), Check.set(7));
            Check.equal("the mode stays", x.modeOf(0, 8), DIRECT);
        }
        int third = sendPassed(x, 9, 3);
        Check.equal("0 bounces", x.bounces(8), 0);
        Check.equal("the third reaches nobody", x.reached(third), 0);
        Check.equal("nor by a digest", x.size(4, 0), 0);
        for (int list : new int[] {0, 1, 2, 4}) {
            Check.equal("DIGEST in " + list, x.modeOf(list, 8), DIGEST);
        }
        Check.equal("nobody else", x.modeOf(0, 7), DIRECT);
        Check.equal("no member by that", x.leave(4, 8), DIGEST);
        Check.throwsOf("of 3 neither", STATE, () -> x.leave(3, 8));
        x.join(3, 8, DIRECT);
        Check.equal("DIRECT by a later joining", x.modeOf(3, 8), DIRECT);
        for (int mail = 0; mail < 10; mail++) {
            Check.equal("reads what came before", x.read(8), mail);
        }
        Check.equal("what bounced never comes", x.read(8), NONE);
        sendPassed(x, 9, 3);
        Check.equal("but the next does", x.box(8), 1);
    }

    private static void toDigests() {
        Sentences.test("If the mode is DIGEST, it comes into the digest of the list by which the "
                + "mode is so, of the day on which the mail was sent, and the person is a reader of "
                + "that digest", () -> {
            MailPriory x = lists(4);
            x.nest(3, 1);
            x.join(3, 8, DIGEST);
            x.join(1, 8, DIGEST);
            x.join(3, 7, DIGEST);
            sendHeld(x, 9, 3);
            x.pass(2);
            x.approve(0);
            Check.equal("of the lowest list", x.digest(1, 0, 0), 0);
            Check.equal("its reader", x.readers(1, 0), Check.set(8));
            Check.equal("of the list itself", x.digest(3, 0, 0), 0);
            Check.equal("the reader of that", x.readers(3, 0), Check.set(7));
            Check.equal("none of the day of passing", x.size(1, 2) + x.size(3, 2), 0);
            Check.equal("nor readers", x.readers(1, 2) + x.readers(3, 2), 0);
            Check.equal("nothing in the box", x.box(8), 0);
        });
        Sentences.test("A mail that came into a box, or into a digest of which somebody is a reader "
                + "by it, has reached that person", () -> {
            MailPriory x = lists(1);
            x.join(0, 8, DIRECT);
            x.join(0, 7, DIGEST);
            sendPassed(x, 9, 0);
            Check.equal("both", x.reached(0), Check.set(7, 8));
            x.leave(0, 7);
            x.join(0, 6, DIGEST);
            sendPassed(x, 9, 0);
            Check.equal("the same digest", x.size(0, 0), 2);
            Check.equal("7 reads it, but not by this mail", x.readers(0, 0), Check.set(6, 7));
            Check.equal("so it has not reached 7", x.reached(1), Check.set(6, 8));
            x.read(8);
            x.leave(0, 8);
            Check.equal("it has, whatever comes then", x.reached(0), Check.set(7, 8));
        });
    }

    /** Wrong calls on mailOfEachState. */
    private static final class Wrong {
        static void makeAll(MailPriory x) {
            Check.throwsOf("list", INDEX, () -> x.list(16));
            Check.throwsOf("join", STATE, () -> x.join(0, 8, DIGEST));
            Check.throwsOf("leave", STATE, () -> x.leave(1, 8));
            Check.throwsOf("mode", ARGUMENT, () -> x.mode(0, 8, 2));
            Check.throwsOf("nest", ARGUMENT, () -> Check.toInt(x.nest(1, 1)));
            Check.throwsOf("rules", ARGUMENT, () -> x.rules(0, 9, 31, true));
            Check.throwsOf("bar", INDEX, () -> Check.toInt(x.bar(0, 16)));
            Check.throwsOf("word", ARGUMENT, () -> x.word(0, 51));
            Check.throwsOf("send", ARGUMENT, () -> x.send(9, 0, 1048576, NONE));
            Check.throwsOf("approve", STATE, () -> x.approve(AT_APPEALED));
            Check.throwsOf("refuse", STATE, () -> x.refuse(AT_APPEALED));
            Check.throwsOf("appeal", STATE, () -> x.appeal(AT_APPEALED));
            Check.throwsOf("vote", STATE, () -> x.vote(AT_APPEALED, 1, false));
            Check.throwsOf("read", INDEX, () -> x.read(16));
            Check.throwsOf("digest", NoSuchElementException.class, () -> x.digest(0, 0, 0));
            Check.throwsOf("pass", ARGUMENT, () -> x.pass(51));
        }
    }
}
