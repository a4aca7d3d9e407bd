/** A test for each sentence of the promises 1 to 12: a new object, lists and members. */
final class ListsSentences extends Given {
    private ListsSentences() {
    }

    static void test() {
        Sentences.under("Promise 1: A new object");
        newObject();
        Sentences.under("Promise 2: list");
        list();
        Sentences.under("Promise 3: join");
        join();
        joinThrows();
        Sentences.under("Promise 4: leave");
        leave();
        Sentences.under("Promise 5: mode");
        mode();
        modeThrows();
        Sentences.under("Promise 6: nest");
        nest();
        nestThrows();
        Sentences.under("Promise 7: rules");
        rules();
        rulesRanges();
        Sentences.under("Promise 8: bar");
        bar();
        Sentences.under("Promise 9: word");
        word();
        Sentences.under("Promise 10: reaches");
        reaches();
        Sentences.under("Promise 11: reachesByMembers");
        reachesByMembers();
        Sentences.under("Promise 12: modeOf");
        modeOf();
    }

    private static void newObject() {
        Sentences.test("No lists and no mails, on the day 0", () -> {
            MailPriory x = new MailPriory();
            Check.throwsOf("the list 0", INDEX, () -> x.reaches(0));
            Check.throwsOf("the mail 0", INDEX, () -> x.state(0));
            Check.equal("mails", x.mails(), 0);
            Check.equal("held", x.held(), 0);
            Check.equal("the first list", x.list(0), 0);
            Check.equal("the first mail", x.send(1, 0, 0, NONE), 0);
            Check.equal("the day 0", x.size(0, 0), 0);
            Check.throwsOf("the day 1", ARGUMENT, () -> x.size(0, 1));
            MailPriory other = new MailPriory();
            Check.equal("another object has none of it", other.mails(), 0);
            Check.throwsOf("nor its list", INDEX, () -> other.reaches(0));
        });
    }

    private static void list() {
        Sentences.test("Makes a list", () -> {
            MailPriory x = new MailPriory();
            Check.throwsOf("before", INDEX, () -> x.join(0, 4, DIRECT));
            x.list(3);
            Check.equal("then", x.join(0, 4, DIRECT), 1);
        });
        Sentences.test("`lister`: 0 to 15", () -> {
            MailPriory x = new MailPriory();
            Check.equal("the lister 0", x.list(0), 0);
            Check.equal("the lister 15", x.list(15), 1);
            Check.throwsOf("the lister -1", INDEX, () -> x.list(-1));
            Check.throwsOf("the lister 16", INDEX, () -> x.list(16));
        });
        Sentences.test("Returns its number", () -> {
            MailPriory x = new MailPriory();
            for (int list = 0; list < 10; list++) {
                Check.equal("the number", x.list(15 - list), list);
            }
        });
        Sentences.test("Throws `IndexOutOfBoundsException` if there is no such person", () -> {
            MailPriory x = new MailPriory();
            Check.throwsForEach("the lister", INDEX, NO_PERSONS, k -> x.list(k));
            Check.equal("no list was made", x.list(0), 0);
        });
        Sentences.test("Throws `IllegalStateException` if there are 10 lists", () -> {
            MailPriory x = lists(9);
            Check.equal("the tenth", x.list(0), 9);
            Check.throwsOf("the eleventh", STATE, () -> x.list(0));
            Check.throwsOf("and again", STATE, () -> x.list(15));
            Check.equal("the list 9 is there", x.reaches(9), 0);
            Check.throwsOf("the list 10 is not", INDEX, () -> x.reaches(10));
        });
    }

    private static void join() {
        Sentences.test("Lets a person be a member of a list", () -> {
            MailPriory x = lists(2);
            x.join(0, 8, DIRECT);
            Check.equal("of that list", x.reaches(0), Check.set(8));
            Check.equal("of no other", x.reaches(1), 0);
            sendPassed(x, 9, 0);
            Check.equal("and gets its mails", x.read(8), 0);
        });
        Sentences.test("`list`: its number", () -> {
            MailPriory x = lists(3);
            Check.equal("the first", x.join(0, 8, DIRECT), 1);
            Check.equal("the last", x.join(2, 8, DIRECT), 1);
            Check.throwsOf("-1", INDEX, () -> x.join(-1, 8, DIRECT));
            Check.throwsOf("3", INDEX, () -> x.join(3, 8, DIRECT));
        });
        Sentences.test("`person`: 0 to 15", () -> {
            MailPriory x = lists(1);
            Check.equal("the person 0", x.join(0, 0, DIRECT), 1);
            Check.equal("the person 15", x.join(0, 15, DIRECT), 2);
            Check.throwsOf("the person -1", INDEX, () -> x.join(0, -1, DIRECT));
            Check.throwsOf("the person 16", INDEX, () -> x.join(0, 16, DIRECT));
            Check.equal("both", x.reaches(0), Check.set(0, 15));
        });
        Sentences.test("`mode`: DIRECT or DIGEST", () -> {
            MailPriory x = lists(1);
            x.join(0, 8, 0);
            x.join(0, 7, 1);
            Check.equal("DIRECT", x.modeOf(0, 8), DIRECT);
            Check.equal("DIGEST", x.modeOf(0, 7), DIGEST);
            Check.throwsOf("the mode -1", ARGUMENT, () -> x.join(0, 6, -1));
            Check.throwsOf("the mode 2", ARGUMENT, () -> x.join(0, 6, 2));
        });
        Sentences.test("Returns how many members it has then", () -> {
            MailPriory x = lists(2);
            x.nest(0, 1);
            x.join(1, 3, DIRECT);
            for (int person = 0; person < 16; person++) {
                Check.equal("members", x.join(0, person, person % 2), person + 1);
            }
            x.leave(0, 5);
            x.leave(0, 6);
            Check.equal("after two have left", x.join(0, 5, DIGEST), 15);
        });
    }

    private static void joinThrows() {
        Sentences.test("Throws `IndexOutOfBoundsException` if there is no such list or person",
                () -> {
            MailPriory x = lists(3);
            Check.throwsForEach("the list", INDEX, notBelow(3), k -> x.join(k, 8, DIRECT));
            Check.throwsForEach("the person", INDEX, NO_PERSONS, k -> x.join(0, k, DIRECT));
            Check.equal("nobody has joined", x.reaches(0) | x.reaches(1) | x.reaches(2), 0);
        });
        Sentences.test("Throws `IllegalArgumentException` if mode is none of these", () -> {
            MailPriory x = lists(1);
            Check.throwsForEach("the mode", ARGUMENT, NO_MODES, k -> x.join(0, 8, k));
            Check.equal("nobody has joined", x.reaches(0), 0);
        });
        Sentences.test("Throws `IllegalStateException` if the person is a member of it", () -> {
            MailPriory x = lists(2);
            x.nest(0, 1);
            x.join(1, 8, DIGEST);
            Check.equal("a member of a part is none of it", x.join(0, 8, DIRECT), 1);
            Check.throwsOf("again", STATE, () -> x.join(0, 8, DIRECT));
            Check.throwsOf("with another mode", STATE, () -> x.join(0, 8, DIGEST));
            Check.throwsOf("in the part", STATE, () -> x.join(1, 8, DIRECT));
            Check.equal("the mode stays", x.leave(0, 8), DIRECT);
            Check.equal("that of the part too", x.modeOf(1, 8), DIGEST);
            Check.equal("one who has left may join", x.join(0, 8, DIGEST), 1);
        });
    }

    private static void leave() {
        Sentences.test("Lets a person be a member of a list no more", () -> {
            MailPriory x = lists(2);
            x.join(0, 8, DIRECT);
            x.join(1, 8, DIRECT);
            x.join(0, 7, DIRECT);
            x.leave(0, 8);
            Check.equal("of that list", x.reaches(0), Check.set(7));
            Check.equal("but of the other one", x.reaches(1), Check.set(8));
            sendPassed(x, 9, 0);
            Check.equal("and gets no mails of it", x.box(8), 0);
        });
        Sentences.test("`list`: its number", () -> {
            MailPriory x = lists(3);
            x.join(0, 8, DIRECT);
            x.join(2, 8, DIGEST);
            Check.throwsOf("-1", INDEX, () -> x.leave(-1, 8));
            Check.throwsOf("3", INDEX, () -> x.leave(3, 8));
            Check.equal("the first", x.leave(0, 8), DIRECT);
            Check.equal("the last", x.leave(2, 8), DIGEST);
        });
        Sentences.test("`person`: 0 to 15", () -> {
            MailPriory x = lists(1);
            x.join(0, 0, DIRECT);
            x.join(0, 15, DIGEST);
            Check.throwsOf("the person -1", INDEX, () -> x.leave(0, -1));
            Check.throwsOf("the person 16", INDEX, () -> x.leave(0, 16));
            Check.equal("the person 0", x.leave(0, 0), DIRECT);
            Check.equal("the person 15", x.leave(0, 15), DIGEST);
        });
        Sentences.test("Returns the mode that the member had", () -> {
            MailPriory x = lists(2);
            x.nest(0, 1);
            x.join(0, 8, DIGEST);
            x.join(1, 8, DIRECT);
            Check.equal("in that list, not in its parts", x.leave(0, 8), DIGEST);
            Check.equal("in the part", x.leave(1, 8), DIRECT);
            x.join(0, 8, DIRECT);
            x.mode(0, 8, DIGEST);
            Check.equal("as it was changed", x.leave(0, 8), DIGEST);
            x.join(0, 8, DIRECT);
            sendMany(x, 0, 13);
            Check.equal("as bounces made it", x.leave(0, 8), DIGEST);
        });
        Sentences.test("Throws `IndexOutOfBoundsException` if there is no such list or person",
                () -> {
            MailPriory x = lists(3);
            x.join(0, 0, DIRECT);
            x.join(2, 15, DIRECT);
            Check.throwsForEach("the list", INDEX, notBelow(3), k -> x.leave(k, 15));
            Check.throwsForEach("the person", INDEX, NO_PERSONS, k -> x.leave(0, k));
            Check.equal("nobody has left", x.reaches(0) | x.reaches(2), Check.set(0, 15));
        });
        Sentences.test("Throws `IllegalStateException` if the person is no member of it", () -> {
            MailPriory x = lists(2);
            Check.throwsOf("of an empty list", STATE, () -> x.leave(0, 8));
            x.nest(0, 1);
            x.join(1, 8, DIRECT);
            x.join(0, 7, DIRECT);
            Check.throwsOf("a member of a part alone", STATE, () -> x.leave(0, 8));
            Check.throwsOf("the lister", STATE, () -> x.leave(0, 0));
            Check.equal("a member", x.leave(1, 8), DIRECT);
            Check.throwsOf("one who has left", STATE, () -> x.leave(1, 8));
            Check.equal("the others stay", x.reaches(0), Check.set(7));
        });
    }

    private static void mode() {
        Sentences.test("Changes the mode of a member", () -> {
            MailPriory x = lists(2);
            x.join(0, 8, DIRECT);
            x.join(1, 8, DIRECT);
            x.join(0, 7, DIRECT);
            x.mode(0, 8, DIGEST);
            Check.equal("then", x.modeOf(0, 8), DIGEST);
            Check.equal("in the other list as before", x.modeOf(1, 8), DIRECT);
            Check.equal("another member as before", x.modeOf(0, 7), DIRECT);
            sendPassed(x, 9, 0);
            Check.equal("the mails come by digest", x.readers(0, 0), Check.set(8));
            x.mode(0, 8, DIRECT);
            sendPassed(x, 9, 0);
            Check.equal("and into the box again", x.read(8), 1);
        });
        Sentences.test("`list`: its number", () -> {
            MailPriory x = lists(3);
            x.join(0, 8, DIRECT);
            x.join(2, 8, DIGEST);
            Check.throwsOf("-1", INDEX, () -> x.mode(-1, 8, DIRECT));
            Check.throwsOf("3", INDEX, () -> x.mode(3, 8, DIRECT));
            Check.equal("the first", x.mode(0, 8, DIGEST), DIRECT);
            Check.equal("the last", x.mode(2, 8, DIRECT), DIGEST);
        });
        Sentences.test("`person`: 0 to 15", () -> {
            MailPriory x = lists(1);
            x.join(0, 0, DIRECT);
            x.join(0, 15, DIGEST);
            Check.throwsOf("the person -1", INDEX, () -> x.mode(0, -1, DIRECT));
            Check.throwsOf("the person 16", INDEX, () -> x.mode(0, 16, DIRECT));
            Check.equal("the person 0", x.mode(0, 0, DIGEST), DIRECT);
            Check.equal("the person 15", x.mode(0, 15, DIRECT), DIGEST);
        });
        Sentences.test("`mode`: DIRECT or DIGEST", () -> {
            MailPriory x = lists(1);
            x.join(0, 8, DIRECT);
            x.mode(0, 8, 1);
            Check.equal("DIGEST", x.modeOf(0, 8), DIGEST);
            Check.throwsOf("the mode -1", ARGUMENT, () -> x.mode(0, 8, -1));
            Check.throwsOf("the mode 2", ARGUMENT, () -> x.mode(0, 8, 2));
            x.mode(0, 8, 0);
            Check.equal("DIRECT", x.modeOf(0, 8), DIRECT);
        });
        Sentences.test("Returns the mode before", () -> {
            MailPriory x = lists(1);
            x.join(0, 8, DIGEST);
            Check.equal("the same", x.mode(0, 8, DIGEST), DIGEST);
            Check.equal("the other", x.mode(0, 8, DIRECT), DIGEST);
            Check.equal("that again", x.mode(0, 8, DIRECT), DIRECT);
            Check.equal("and back", x.mode(0, 8, DIGEST), DIRECT);
        });
    }

    private static void modeThrows() {
        Sentences.test("Throws `IndexOutOfBoundsException` if there is no such list or person",
                () -> {
            MailPriory x = lists(3);
            x.join(0, 0, DIRECT);
            x.join(0, 15, DIRECT);
            Check.throwsForEach("the list", INDEX, notBelow(3), k -> x.mode(k, 0, DIGEST));
            Check.throwsForEach("the person", INDEX, NO_PERSONS, k -> x.mode(0, k, DIGEST));
            Check.equal("0 as before", x.modeOf(0, 0), DIRECT);
            Check.equal("15 as before", x.modeOf(0, 15), DIRECT);
        });
        Sentences.test("Throws `IllegalArgumentException` if mode is none of these", () -> {
            MailPriory x = lists(1);
            x.join(0, 8, DIRECT);
            x.join(0, 7, DIGEST);
            Check.throwsForEach("the mode", ARGUMENT, NO_MODES, k -> x.mode(0, 8, k));
            Check.throwsForEach("the mode", ARGUMENT, NO_MODES, k -> x.mode(0, 7, k));
            Check.equal("8 as before", x.modeOf(0, 8), DIRECT);
            Check.equal("7 as before", x.modeOf(0, 7), DIGEST);
        });
        Sentences.test("Throws `IllegalStateException` if the person is no member of it", () -> {
            MailPriory x = lists(2);
            x.nest(0, 1);
            x.join(1, 8, DIRECT);
            Check.throwsOf("nobody", STATE, () -> x.mode(0, 7, DIRECT));
            Check.throwsOf("a member of a part", STATE, () -> x.mode(0, 8, DIGEST));
            Check.throwsOf("the lister", STATE, () -> x.mode(0, 0, DIGEST));
            Check.equal("a member", x.mode(1, 8, DIGEST), DIRECT);
            x.leave(1, 8);
            Check.throwsOf("one who has left", STATE, () -> x.mode(1, 8, DIRECT));
            Check.equal("no member by all that", x.reaches(0), 0);
        });
    }

    private static void nest() {
        Sentences.test("Lets a list be a part of another one, or not any more, if it is", () -> {
            MailPriory x = lists(3);
            x.join(1, 8, DIRECT);
            x.join(2, 7, DIRECT);
            x.nest(0, 1);
            Check.equal("1 is a part", x.reaches(0), Check.set(8));
            x.nest(0, 2);
            Check.equal("2 too", x.reaches(0), Check.set(7, 8));
            x.nest(0, 1);
            Check.equal("1 not any more", x.reaches(0), Check.set(7));
            x.nest(0, 1);
            Check.equal("again", x.reaches(0), Check.set(7, 8));
            Check.equal("the part has no part by that", x.reaches(1), Check.set(8));
        });
        Sentences.test("`list`: its number", () -> {
            MailPriory x = lists(3);
            Check.throwsOf("-1", INDEX, () -> Check.toInt(x.nest(-1, 1)));
            Check.throwsOf("3", INDEX, () -> Check.toInt(x.nest(3, 1)));
            Check.isTrue("the first", x.nest(0, 1));
            Check.isTrue("the last", x.nest(2, 1));
        });
        Sentences.test("`part`: the other one", () -> {
            MailPriory x = lists(3);
            Check.throwsOf("-1", INDEX, () -> Check.toInt(x.nest(1, -1)));
            Check.throwsOf("3", INDEX, () -> Check.toInt(x.nest(1, 3)));
            Check.isTrue("the first", x.nest(1, 0));
            Check.isTrue("the last", x.nest(1, 2));
            Check.throwsOf("not the same", ARGUMENT, () -> Check.toInt(x.nest(1, 1)));
        });
        Sentences.test("Returns whether that is a part of it then", () -> {
            MailPriory x = lists(2);
            for (int time = 0; time < 4; time++) {
                Check.equal("by turns", Check.toInt(x.nest(0, 1)), 1 - time % 2);
            }
        });
    }

    private static void nestThrows() {
        Sentences.test("Throws `IndexOutOfBoundsException` if there is no such list, of either",
                () -> {
            MailPriory x = lists(3);
            Check.throwsForEach("the list", INDEX, notBelow(3), k -> Check.toInt(x.nest(k, 0)));
            Check.throwsForEach("the part", INDEX, notBelow(3), k -> Check.toInt(x.nest(0, k)));
            Check.throwsForEach("both", INDEX, notBelow(3), k -> Check.toInt(x.nest(k, k)));
            Check.isTrue("nothing is a part by that", x.nest(0, 2));
        });
        Sentences.test("Throws `IllegalArgumentException` if the list would be in itself by that",
                () -> {
            MailPriory x = lists(10);
            for (int list = 0; list < 10; list++) {
                int same = list;
                Check.throwsOf("itself", ARGUMENT, () -> Check.toInt(x.nest(same, same)));
            }
            for (int list = 0; list < 9; list++) {
                x.nest(list, list + 1);
            }
            for (int list = 1; list < 10; list++) {
                for (int above = 0; above < list; above++) {
                    int inner = list;
                    int outer = above;
                    Check.throwsOf(outer + " in " + inner, ARGUMENT,
                            () -> Check.toInt(x.nest(inner, outer)));
                }
            }
            Check.isTrue("one that is in it already may be a part too", x.nest(0, 9));
            Check.throwsOf("9 is in 0 by two ways", ARGUMENT, () -> Check.toInt(x.nest(9, 0)));
            Check.isTrue("one way is cut", !x.nest(4, 5));
            Check.throwsOf("9 is in 0 by the other one", ARGUMENT,
                    () -> Check.toInt(x.nest(9, 0)));
            Check.isTrue("both ways are cut", !x.nest(0, 9));
            Check.isTrue("then it makes no circle", x.nest(9, 0));
            Check.throwsOf("but 4 in 5 has become one", ARGUMENT,
                    () -> Check.toInt(x.nest(4, 5)));
        });
    }

    private static void rules() {
        Sentences.test("Sets what a list asks", () -> {
            MailPriory x = lists(2);
            x.rules(0, 3, 20, true);
            x.join(0, 9, DIRECT);
            x.word(2, 3);
            x.send(9, 0, Check.set(2), NONE);
            x.send(10, 0, 0, NONE);
            x.send(10, 1, Check.set(2), NONE);
            Check.equal("the limit", x.cause(0), SCORE);
            Check.equal("the patience", x.lapses(0), 20);
            Check.equal("closed", x.cause(1), STRANGER);
            Check.equal("nothing of another list", x.cause(2), NONE);
            Check.equal("nothing of mails sent before", x.rules(0, 9, 1, false), 3);
            Check.equal("they are held as before", x.held(), 2);
            Check.equal("and lapse as before", x.lapses(1), 20);
        });
        Sentences.test("`list`: its number", () -> {
            MailPriory x = lists(3);
            Check.throwsOf("-1", INDEX, () -> x.rules(-1, 9, 9, false));
            Check.throwsOf("3", INDEX, () -> x.rules(3, 9, 9, false));
            Check.equal("the first", x.rules(0, 9, 9, false), 10);
            Check.equal("the last", x.rules(2, 9, 9, false), 10);
        });
        Sentences.test("`limit`: 1 to 200", () -> {
            MailPriory x = lists(1);
            x.rules(0, 1, 7, false);
            x.send(9, 0, 0, NONE);
            x.send(9, 0, 0, NONE);
            Check.equal("0 is below 1", x.cause(0), NONE);
            Check.equal("1 is not", x.cause(1), SCORE);
            x.rules(0, 200, 7, false);
            for (int word = 2; word < 6; word++) {
                x.word(word, 50);
            }
            x.send(10, 0, Check.set(2, 3, 4, 5), NONE);
            x.word(5, 49);
            x.send(11, 0, Check.set(2, 3, 4, 5), NONE);
            Check.equal("200 is at 200", x.cause(2), SCORE);
            Check.equal("199 is below 200", x.cause(3), NONE);
            Check.throwsOf("the limit 0", ARGUMENT, () -> x.rules(0, 0, 7, false));
            Check.throwsOf("the limit 201", ARGUMENT, () -> x.rules(0, 201, 7, false));
        });
        Sentences.test("`patience`: 1 to 30", () -> {
            MailPriory x = lists(1);
            x.rules(0, 10, 1, false);
            sendHeld(x, 9, 0);
            x.rules(0, 10, 30, false);
            sendHeld(x, 9, 0);
            Check.equal("the day behind", x.lapses(0), 1);
            Check.equal("30 days", x.lapses(1), 30);
            Check.throwsOf("the patience 0", ARGUMENT, () -> x.rules(0, 10, 0, false));
            Check.throwsOf("the patience 31", ARGUMENT, () -> x.rules(0, 10, 31, false));
        });
    }

    private static void rulesRanges() {
        Sentences.test("`isClosed`: whether it is closed", () -> {
            MailPriory x = lists(1);
            for (int mail = 0; mail < 4; mail++) {
                x.rules(0, 10, 7, mail % 2 == 0);
                x.send(9, 0, 0, NONE);
                Check.equal("by turns", x.cause(mail), mail % 2 == 0 ? STRANGER : NONE);
            }
        });
        Sentences.test("Returns the limit before", () -> {
            MailPriory x = lists(2);
            Check.equal("at first", x.rules(0, 1, 7, false), 10);
            Check.equal("the lowest", x.rules(0, 200, 7, true), 1);
            Check.equal("the highest", x.rules(0, 200, 8, false), 200);
            Check.equal("the same", x.rules(0, 10, 7, false), 200);
            Check.equal("of another list", x.rules(1, 5, 7, false), 10);
        });
        Sentences.test("Throws `IndexOutOfBoundsException` if there is no such list", () -> {
            MailPriory x = lists(3);
            Check.throwsForEach("the list", INDEX, notBelow(3), k -> x.rules(k, 9, 9, true));
            Check.equal("the limit stays", x.rules(0, 9, 9, false), 10);
        });
        Sentences.test("Throws `IllegalArgumentException` if limit or patience is out of its range",
                () -> {
            MailPriory x = lists(1);
            int[] noLimits = {0, 201, 202, 256, 257, -1, -200, Integer.MIN_VALUE,
                Integer.MAX_VALUE};
            int[] noPatience = {0, 31, 32, 33, 256, 257, -1, -30, Integer.MIN_VALUE,
                Integer.MAX_VALUE};
            Check.throwsForEach("the limit", ARGUMENT, noLimits, k -> x.rules(0, k, 9, true));
            Check.throwsForEach("the patience", ARGUMENT, noPatience, k -> x.rules(0, 9, k, true));
            Check.throwsForEach("both", ARGUMENT, noLimits, k -> x.rules(0, k, 0, true));
            x.send(9, 0, 0, NONE);
            sendHeld(x, 9, 0);
            Check.equal("not closed by that", x.cause(0), NONE);
            Check.equal("the patience stays", x.lapses(1), 7);
            Check.equal("the limit stays", x.rules(0, 9, 9, true), 10);
        });
    }

    private static void bar() {
        Sentences.test("Lets a list bar a person, or not any more, if it does", () -> {
            MailPriory x = lists(2);
            x.bar(0, 9);
            sendPassed(x, 9, 0);
            sendPassed(x, 10, 0);
            sendPassed(x, 9, 1);
            x.bar(0, 9);
            sendPassed(x, 9, 0);
            Check.equal("barred", x.cause(0), BARRED);
            Check.equal("no other person", x.cause(1), NONE);
            Check.equal("by no other list", x.cause(2), NONE);
            Check.equal("not any more", x.cause(3), NONE);
            Check.equal("what was held stays so", x.state(0), HELD);
        });
        Sentences.test("`list`: its number", () -> {
            MailPriory x = lists(3);
            Check.throwsOf("-1", INDEX, () -> Check.toInt(x.bar(-1, 9)));
            Check.throwsOf("3", INDEX, () -> Check.toInt(x.bar(3, 9)));
            Check.isTrue("the first", x.bar(0, 9));
            Check.isTrue("the last", x.bar(2, 9));
        });
        Sentences.test("`person`: 0 to 15", () -> {
            MailPriory x = lists(1);
            Check.throwsOf("the person -1", INDEX, () -> Check.toInt(x.bar(0, -1)));
            Check.throwsOf("the person 16", INDEX, () -> Check.toInt(x.bar(0, 16)));
            Check.isTrue("the person 0", x.bar(0, 0));
            Check.isTrue("the person 15", x.bar(0, 15));
        });
        Sentences.test("Returns whether it does then", () -> {
            MailPriory x = lists(1);
            for (int time = 0; time < 4; time++) {
                Check.equal("8 by turns", Check.toInt(x.bar(0, 8)), 1 - time % 2);
                Check.equal("9 by turns", Check.toInt(x.bar(0, 9)), 1 - time % 2);
            }
        });
        Sentences.test("Throws `IndexOutOfBoundsException` if there is no such list or person",
                () -> {
            MailPriory x = lists(3);
            Check.throwsForEach("the list", INDEX, notBelow(3), k -> Check.toInt(x.bar(k, 0)));
            Check.throwsForEach("the person", INDEX, NO_PERSONS, k -> Check.toInt(x.bar(0, k)));
            for (int person = 0; person < 16; person++) {
                Check.isTrue("nobody was barred by that", x.bar(0, person));
            }
        });
    }

    private static void word() {
        Sentences.test("Sets the weight of a word", () -> {
            MailPriory x = lists(1);
            x.word(3, 4);
            x.word(4, 1);
            x.send(9, 0, Check.set(3), NONE);
            x.word(3, 5);
            x.send(10, 0, Check.set(3), NONE);
            Check.equal("then", x.score(0), 4);
            Check.equal("and then", x.score(1), 5);
        });
        Sentences.test("`word`: 0 to 19", () -> {
            MailPriory x = new MailPriory();
            Check.equal("the word 0", x.word(0, 1), 0);
            Check.equal("the word 19", x.word(19, 1), 0);
            Check.throwsOf("the word -1", INDEX, () -> x.word(-1, 1));
            Check.throwsOf("the word 20", INDEX, () -> x.word(20, 1));
        });
        Sentences.test("`weight`: -20 to 50", () -> {
            MailPriory x = lists(1);
            x.word(2, -20);
            x.word(3, 50);
            Check.throwsOf("the weight -21", ARGUMENT, () -> x.word(2, -21));
            Check.throwsOf("the weight 51", ARGUMENT, () -> x.word(3, 51));
            x.send(9, 0, Check.set(2), NONE);
            x.send(10, 0, Check.set(3), NONE);
            Check.equal("the lowest", x.score(0), -20);
            Check.equal("the highest", x.score(1), 50);
        });
        Sentences.test("Returns the weight before", () -> {
            MailPriory x = new MailPriory();
            for (int word = 0; word < 20; word++) {
                Check.equal("at first", x.word(word, word - 20), 0);
            }
            for (int word = 0; word < 20; word++) {
                Check.equal("of each word its own", x.word(word, 50 - word), word - 20);
                Check.equal("the last one", x.word(word, 50 - word), 50 - word);
            }
        });
        Sentences.test("Throws `IndexOutOfBoundsException` if there is no such word", () -> {
            MailPriory x = new MailPriory();
            Check.throwsForEach("the word", INDEX, NO_WORDS, k -> x.word(k, 1));
            for (int word = 0; word < 20; word++) {
                Check.equal("no weight changed", x.word(word, 1), 0);
            }
        });
        Sentences.test("Throws `IllegalArgumentException` if weight is out of its range", () -> {
            MailPriory x = new MailPriory();
            int[] noWeights = {-21, 51, -22, 52, 256, -256, Integer.MIN_VALUE, Integer.MAX_VALUE};
            Check.throwsForEach("the weight", ARGUMENT, noWeights, k -> x.word(5, k));
            Check.equal("the weight stays", x.word(5, 0), 0);
        });
    }

    private static void reaches() {
        Sentences.test("Returns the persons whom a list reaches, found from the list down", () -> {
            MailPriory x = nestedLists();
            for (int list = 0; list < 6; list++) {
                Check.equal("of " + list, x.reaches(list), REACHED[list]);
            }
        });
        Sentences.test("`list`: its number", () -> {
            MailPriory x = lists(3);
            x.join(0, 8, DIRECT);
            x.join(2, 9, DIGEST);
            Check.throwsOf("-1", INDEX, () -> x.reaches(-1));
            Check.throwsOf("3", INDEX, () -> x.reaches(3));
            Check.equal("the first", x.reaches(0), Check.set(8));
            Check.equal("the last", x.reaches(2), Check.set(9));
        });
        Sentences.test("Returns the persons, as a set: bit k for the person k", () -> {
            MailPriory x = lists(1);
            Check.equal("nobody", x.reaches(0), 0);
            for (int person = 0; person < 16; person++) {
                x.join(0, person, person % 2);
                Check.equal("up to " + person, x.reaches(0), (2 << person) - 1);
            }
            for (int person = 0; person < 15; person++) {
                x.leave(0, person);
            }
            Check.equal("15 alone", x.reaches(0), 32768);
        });
        Sentences.test("Throws `IndexOutOfBoundsException` if there is no such list", () -> {
            MailPriory x = lists(3);
            Check.throwsForEach("the list", INDEX, notBelow(3), k -> x.reaches(k));
            MailPriory none = new MailPriory();
            Check.throwsForEach("the list", INDEX, notBelow(0), k -> none.reaches(k));
            MailPriory all = lists(10);
            Check.throwsForEach("the list", INDEX, notBelow(10), k -> all.reaches(k));
        });
    }

    private static void reachesByMembers() {
        Sentences.test("Returns the same, found from the members of each list up", () -> {
            MailPriory x = nestedLists();
            for (int list = 0; list < 6; list++) {
                Check.equal("of " + list, x.reachesByMembers(list), REACHED[list]);
            }
        });
        Sentences.test("`list`: its number", () -> {
            MailPriory x = lists(3);
            x.join(0, 8, DIRECT);
            x.join(2, 9, DIGEST);
            Check.throwsOf("-1", INDEX, () -> x.reachesByMembers(-1));
            Check.throwsOf("3", INDEX, () -> x.reachesByMembers(3));
            Check.equal("the first", x.reachesByMembers(0), Check.set(8));
            Check.equal("the last", x.reachesByMembers(2), Check.set(9));
        });
        Sentences.test("Returns the persons, as a set", () -> {
            MailPriory x = lists(2);
            x.nest(0, 1);
            Check.equal("nobody", x.reachesByMembers(0), 0);
            for (int person = 0; person < 16; person++) {
                x.join(person % 2, person, DIGEST);
                Check.equal("up to " + person, x.reachesByMembers(0), (2 << person) - 1);
            }
            Check.equal("the odd ones", x.reachesByMembers(1), 0xAAAA);
        });
        Sentences.test("Throws `IndexOutOfBoundsException` if there is no such list", () -> {
            MailPriory x = lists(3);
            Check.throwsForEach("the list", INDEX, notBelow(3), k -> x.reachesByMembers(k));
            MailPriory none = new MailPriory();
            Check.throwsForEach("the list", INDEX, notBelow(0), k -> none.reachesByMembers(k));
            MailPriory all = lists(10);
            Check.throwsForEach("the list", INDEX, notBelow(10), k -> all.reachesByMembers(k));
        });
    }

    /** 3 is in 5 and in 0, those are in 4; 1 is in 0 too; 2 is alone; the person 15 is in 0 and 3. */
    private static MailPriory nestedLists() {
        MailPriory x = lists(6);
        x.nest(4, 0);
        x.nest(4, 5);
        x.nest(5, 3);
        x.nest(0, 3);
        x.nest(0, 1);
        for (int list = 0; list < 6; list++) {
            x.join(list, list, list % 2);
        }
        x.join(0, 15, DIRECT);
        x.join(3, 15, DIGEST);
        return x;
    }

    private static final int[] REACHED = {
        Check.set(0, 1, 3, 15), Check.set(1), Check.set(2), Check.set(3, 15),
        Check.set(0, 1, 3, 4, 5, 15), Check.set(3, 5, 15),
    };

    private static void modeOf() {
        Sentences.test("Returns the mode of a list for a person", () -> {
            MailPriory x = nestedLists();
            Check.equal("DIGEST in 3 alone", x.modeOf(3, 15), DIGEST);
            Check.equal("DIGEST in 3 by 5", x.modeOf(5, 15), DIGEST);
            Check.equal("DIRECT in 0", x.modeOf(0, 15), DIRECT);
            Check.equal("DIRECT in 0 by 4", x.modeOf(4, 15), DIRECT);
            Check.equal("another person", x.modeOf(4, 5), DIGEST);
        });
        Sentences.test("`list`: its number", () -> {
            MailPriory x = lists(3);
            x.join(0, 8, DIRECT);
            x.join(2, 8, DIGEST);
            Check.throwsOf("-1", INDEX, () -> x.modeOf(-1, 8));
            Check.throwsOf("3", INDEX, () -> x.modeOf(3, 8));
            Check.equal("the first", x.modeOf(0, 8), DIRECT);
            Check.equal("the last", x.modeOf(2, 8), DIGEST);
        });
        Sentences.test("`person`: 0 to 15", () -> {
            MailPriory x = lists(1);
            x.join(0, 0, DIGEST);
            x.join(0, 15, DIRECT);
            Check.throwsOf("the person -1", INDEX, () -> x.modeOf(0, -1));
            Check.throwsOf("the person 16", INDEX, () -> x.modeOf(0, 16));
            Check.equal("the person 0", x.modeOf(0, 0), DIGEST);
            Check.equal("the person 15", x.modeOf(0, 15), DIRECT);
        });
        Sentences.test("Returns DIRECT or DIGEST; NONE if it does not reach the person", () -> {
            MailPriory x = lists(2);
            Check.equal("nobody yet", x.modeOf(0, 8), NONE);
            x.join(1, 8, DIRECT);
            Check.equal("by another list", x.modeOf(0, 8), NONE);
            x.nest(0, 1);
            Check.equal("by a part", x.modeOf(0, 8), DIRECT);
            x.mode(1, 8, DIGEST);
            Check.equal("otherwise", x.modeOf(0, 8), DIGEST);
            x.nest(0, 1);
            Check.equal("no part any more", x.modeOf(0, 8), NONE);
            Check.equal("the lister is no member", x.modeOf(0, 0), NONE);
        });
        Sentences.test("Throws `IndexOutOfBoundsException` if there is no such list or person",
                () -> {
            MailPriory x = lists(3);
            Check.throwsForEach("the list", INDEX, notBelow(3), k -> x.modeOf(k, 0));
            Check.throwsForEach("the person", INDEX, NO_PERSONS, k -> x.modeOf(0, k));
        });
    }
}
