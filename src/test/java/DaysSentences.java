import java.util.NoSuchElementException;
import java.util.function.IntBinaryOperator;

/** A test for each sentence of the promises 32 to 36 and of what is not promised. */
final class DaysSentences extends Given {
    private static final Class<NoSuchElementException> PLACE = NoSuchElementException.class;

    private DaysSentences() {
    }

    static void test() {
        Sentences.under("Promise 32: size");
        size();
        Sentences.under("Promise 33: digest");
        digest();
        digestThrows();
        Sentences.under("Promise 34: edition");
        edition();
        Sentences.under("Promise 35: readers");
        readers();
        Sentences.under("Promise 36: pass");
        pass();
        Sentences.under("Not promised");
        notPromised();
    }

    /**
     * Lists 0 to 3, 0 a part of 3; the person 8 reads 0 by digest, 7 reads 3 so, and 6 reads 1 DIRECT.
     * The mails 0 to 3 passed on the day 0, the mail 4 to 0 is held since then, the mail 5 passed on
     * the day 2; it is the day 3.
     */
    private static MailPriory digestsOfDays() {
        MailPriory x = lists(4);
        x.join(0, 8, DIGEST);
        x.join(3, 7, DIGEST);
        x.join(1, 6, DIRECT);
        x.nest(3, 0);
        sendPassed(x, 9, 0);
        sendPassed(x, 9, 3);
        sendPassed(x, 9, 1);
        sendPassed(x, 9, 0);
        sendHeld(x, 9, 0);
        x.pass(2);
        sendPassed(x, 9, 0);
        x.pass(1);
        return x;
    }

    private static void takesLists(IntBinaryOperator call, int of0, int of3) {
        Check.throwsOf("the list -1", INDEX, () -> call.applyAsInt(-1, 0));
        Check.throwsOf("the list 4", INDEX, () -> call.applyAsInt(4, 0));
        Check.equal("the list 0", call.applyAsInt(0, 0), of0);
        Check.equal("the list 3", call.applyAsInt(3, 0), of3);
    }

    /** Of the list 0, asked on the day 3; the day 4 comes then. */
    private static void takesDays(MailPriory x, IntBinaryOperator call, int ofDay0, int ofToday,
            int ofNone) {
        Check.throwsOf("the day -1", ARGUMENT, () -> call.applyAsInt(0, -1));
        Check.equal("the day 0", call.applyAsInt(0, 0), ofDay0);
        Check.equal("today", call.applyAsInt(0, 3), ofToday);
        Check.throwsOf("the day behind", ARGUMENT, () -> call.applyAsInt(0, 4));
        x.pass(1);
        Check.equal("that is today now", call.applyAsInt(0, 4), ofNone);
        Check.throwsOf("and the day behind", ARGUMENT, () -> call.applyAsInt(0, 5));
    }

    private static void throwsWithoutList(IntBinaryOperator call) {
        for (int day = 0; day < 4; day++) {
            int asked = day;
            Check.throwsForEach("the list", INDEX, notBelow(4), k -> call.applyAsInt(k, asked));
        }
    }

    private static void throwsWithoutDay(IntBinaryOperator call) {
        int[] noDays = {-1, -2, 4, 5, 36, 260, 400, 401, Integer.MIN_VALUE, Integer.MAX_VALUE};
        for (int list = 0; list < 4; list++) {
            int asked = list;
            Check.throwsForEach("the day", ARGUMENT, noDays, k -> call.applyAsInt(asked, k));
        }
    }

    private static final int[][] NO_DIGESTS = {{1, 0}, {2, 0}, {0, 1}, {3, 2}, {0, 3}};

    /** DIRECT members alone, nobody, no mail, none by the list itself, none as yet. */
    private static void tellsOfNone(IntBinaryOperator call, int due) {
        for (int[] none : NO_DIGESTS) {
            Check.equal("of " + none[0] + " on the day " + none[1],
                    call.applyAsInt(none[0], none[1]), due);
        }
    }

    private static void size() {
        Sentences.test("Returns how many mails a digest has", () -> {
            MailPriory x = digestsOfDays();
            Check.equal("of 0 on the day 0", x.size(0, 0), 3);
            Check.equal("of 3 on the day 0", x.size(3, 0), 1);
            Check.equal("of 0 on the day 2", x.size(0, 2), 1);
            x.approve(4);
            Check.equal("a late one more", x.size(0, 0), 4);
        });
        Sentences.test("`list`: its list", () -> takesLists(digestsOfDays()::size, 3, 1));
        Sentences.test("`day`: its day, 0 up to today", () -> {
            MailPriory x = digestsOfDays();
            sendPassed(x, 9, 0);
            takesDays(x, x::size, 3, 1, 0);
        });
        Sentences.test("Returns the mails; 0 if there is no such digest", () -> {
            tellsOfNone(digestsOfDays()::size, 0);
            MailPriory x = lists(1);
            x.join(0, 7, DIGEST);
            x.join(0, 8, DIGEST);
            for (int mail = 0; mail < 80; mail++) {
                Check.equal("up to now", x.size(0, 0), mail);
                sendPassed(x, mail % 16, 0);
            }
            Check.equal("all mails", x.size(0, 0), 80);
        });
        Sentences.test("Throws `IndexOutOfBoundsException` if there is no such list",
                () -> throwsWithoutList(digestsOfDays()::size));
        Sentences.test("Throws `IllegalArgumentException` if day is out of its range",
                () -> throwsWithoutDay(digestsOfDays()::size));
    }

    private static void digest() {
        Sentences.test("Returns a mail of a digest", () -> {
            MailPriory x = digestsOfDays();
            Check.equal("of 0 on the day 0", x.digest(0, 0, 1), 1);
            Check.equal("of 3 on the day 0", x.digest(3, 0, 0), 1);
            Check.equal("of 0 on the day 2", x.digest(0, 2, 0), 5);
        });
        Sentences.test("`list`: its list",
                () -> takesLists((k, day) -> digestsOfDays().digest(k, day, 0), 0, 1));
        Sentences.test("`day`: its day, 0 up to today", () -> {
            MailPriory x = digestsOfDays();
            sendPassed(x, 9, 0);
            Check.throwsOf("the day -1", ARGUMENT, () -> x.digest(0, -1, 0));
            Check.equal("the day 0", x.digest(0, 0, 0), 0);
            Check.equal("today", x.digest(0, 3, 0), 6);
            Check.throwsOf("the day behind", ARGUMENT, () -> x.digest(0, 4, 0));
            x.pass(1);
            Check.throwsOf("that is today now", PLACE, () -> x.digest(0, 4, 0));
        });
        Sentences.test("`place`: 0 for the first one", () -> {
            MailPriory x = digestsOfDays();
            Check.throwsOf("the place -1", PLACE, () -> x.digest(0, 0, -1));
            Check.equal("the first", x.digest(0, 0, 0), 0);
            Check.equal("the last", x.digest(0, 0, 2), 3);
            Check.throwsOf("the place 3", PLACE, () -> x.digest(0, 0, 3));
            x.approve(4);
            Check.equal("there is one then", x.digest(0, 0, 3), 4);
            Check.throwsOf("but no place 4", PLACE, () -> x.digest(0, 0, 4));
        });
        Sentences.test("Returns its number", () -> {
            MailPriory x = digestsOfDays();
            int[] due = {0, 1, 3};
            for (int place = 0; place < 3; place++) {
                Check.equal("the place " + place, x.digest(0, 0, place), due[place]);
            }
        });
    }

    private static void digestThrows() {
        Sentences.test("Throws `IndexOutOfBoundsException` if there is no such list",
                () -> throwsWithoutList((k, day) -> digestsOfDays().digest(k, day, 0)));
        Sentences.test("Throws `IllegalArgumentException` if day is out of its range",
                () -> throwsWithoutDay((list, k) -> digestsOfDays().digest(list, k, 0)));
        Sentences.test("Throws `java` .util.NoSuchElementException if the digest has no such place",
                () -> {
            MailPriory x = digestsOfDays();
            Check.throwsForEach("of three", PLACE, notBelow(3), k -> x.digest(0, 0, k));
            Check.throwsForEach("of one", PLACE, notBelow(1), k -> x.digest(3, 0, k));
            for (int[] none : NO_DIGESTS) {
                Check.throwsForEach("of none", PLACE, notBelow(0),
                        k -> x.digest(none[0], none[1], k));
            }
        });
    }

    private static void edition() {
        Sentences.test("Returns the edition of a digest", () -> {
            MailPriory x = digestsOfDays();
            sendPassed(x, 9, 0);
            Check.equal("of an old day", x.edition(0, 2), 1);
            Check.equal("of today", x.edition(0, 3), 0);
            x.approve(4);
            Check.equal("made again", x.edition(0, 0), 2);
            Check.equal("not that of the day of passing", x.edition(0, 3), 0);
        });
        Sentences.test("`list`: its list", () -> {
            MailPriory x = digestsOfDays();
            x.approve(4);
            takesLists(x::edition, 2, 1);
        });
        Sentences.test("`day`: its day, 0 up to today", () -> {
            MailPriory x = digestsOfDays();
            sendPassed(x, 9, 0);
            takesDays(x, x::edition, 1, 0, NONE);
        });
        Sentences.test("Returns the edition; NONE if there is no such digest", () -> {
            MailPriory x = digestsOfDays();
            tellsOfNone(x::edition, NONE);
            MailPriory y = lists(1);
            for (int mail = 0; mail < 79; mail++) {
                sendHeld(y, 9, 0);
            }
            y.pass(1);
            Check.equal("nobody reads it yet", y.edition(0, 0), NONE);
            y.join(0, 8, DIGEST);
            for (int mail = 0; mail < 79; mail++) {
                y.approve(mail);
                Check.equal("one more by each call", y.edition(0, 0), mail + 1);
            }
        });
        Sentences.test("Throws `IndexOutOfBoundsException` if there is no such list",
                () -> throwsWithoutList(digestsOfDays()::edition));
        Sentences.test("Throws `IllegalArgumentException` if day is out of its range",
                () -> throwsWithoutDay(digestsOfDays()::edition));
    }

    private static void readers() {
        Sentences.test("Returns the readers of a digest", () -> {
            MailPriory x = digestsOfDays();
            Check.equal("of 0 on the day 0", x.readers(0, 0), Check.set(8));
            Check.equal("of 3 on the day 0", x.readers(3, 0), Check.set(7));
            x.leave(0, 8);
            x.join(0, 5, DIGEST);
            Check.equal("who leaves has read it", x.readers(0, 0), Check.set(8));
            x.approve(4);
            Check.equal("who joins reads what comes then", x.readers(0, 0), Check.set(5, 8));
            Check.equal("but not of another day", x.readers(0, 2), Check.set(8));
        });
        Sentences.test("`list`: its list", () -> takesLists(digestsOfDays()::readers, 256, 128));
        Sentences.test("`day`: its day, 0 up to today", () -> {
            MailPriory x = digestsOfDays();
            x.join(0, 5, DIGEST);
            sendPassed(x, 8, 0);
            takesDays(x, x::readers, Check.set(8), Check.set(5), 0);
        });
        Sentences.test("Returns the persons, as a set; 0 if there is no such digest", () -> {
            tellsOfNone(digestsOfDays()::readers, 0);
            MailPriory x = lists(1);
            for (int person = 0; person < 16; person++) {
                x.join(0, person, DIGEST);
            }
            sendPassed(x, 0, 0);
            Check.equal("all but the sender", x.readers(0, 0), 65534);
            sendPassed(x, 15, 0);
            Check.equal("all", x.readers(0, 0), 65535);
        });
        Sentences.test("Throws `IndexOutOfBoundsException` if there is no such list",
                () -> throwsWithoutList(digestsOfDays()::readers));
        Sentences.test("Throws `IllegalArgumentException` if day is out of its range",
                () -> throwsWithoutDay(digestsOfDays()::readers));
    }

    private static void pass() {
        Sentences.test("Lets days go by", () -> {
            MailPriory x = lists(1);
            x.pass(3);
            Check.equal("it is the day 3", x.size(0, 3), 0);
            Check.throwsOf("not the day 4", ARGUMENT, () -> x.size(0, 4));
            x.pass(50);
            Check.equal("it is the day 53", x.size(0, 53), 0);
            Check.throwsOf("not the day 54", ARGUMENT, () -> x.size(0, 54));
        });
        Sentences.test("`days`: 1 to 50", () -> {
            MailPriory x = lists(1);
            Check.throwsOf("0", ARGUMENT, () -> x.pass(0));
            Check.throwsOf("51", ARGUMENT, () -> x.pass(51));
            Check.equal("1", x.pass(1), 0);
            Check.equal("50", x.pass(50), 0);
            sendHeld(x, 9, 0);
            Check.equal("it is the day 51", x.lapses(0), 58);
        });
        Sentences.test("Returns how many mails lapse by that", () -> {
            MailPriory x = lists(4);
            for (int mail = 0; mail < 6; mail++) {
                x.rules(0, 10, 1 + mail, false);
                sendHeld(x, 9 + mail, 0);
            }
            sendPassed(x, 9, 0);
            x.approve(2);
            x.appeal(4);
            Check.equal("the mail 0", x.pass(1), 1);
            Check.equal("the mail 1, not the mail 2, which passed", x.pass(2), 1);
            Check.equal("the mails 3 and 5, not the mail 4, which was appealed", x.pass(50), 2);
            Check.equal("none", x.pass(50), 0);
            MailPriory full = lists(1);
            for (int mail = 0; mail < 80; mail++) {
                sendHeld(full, 9, 0);
            }
            Check.equal("none of 80 on the day before", full.pass(6), 0);
            Check.equal("all 80", full.pass(1), 80);
        });
        Sentences.test("Throws `IllegalArgumentException` if days is out of its range", () -> {
            MailPriory x = lists(1);
            int[] wrong = {0, 51, 52, 82, 306, -1, -50, 400, 401, Integer.MIN_VALUE,
                Integer.MAX_VALUE};
            Check.throwsForEach("the days", ARGUMENT, wrong, k -> x.pass(k));
            Check.throwsOf("no day went by", ARGUMENT, () -> x.size(0, 1));
            passTo(x, 0, 400);
            Check.throwsForEach("the days, on the last day", ARGUMENT, wrong, k -> x.pass(k));
        });
        Sentences.test("Throws `IllegalStateException` if today would be above 400",
                DaysSentences::passThrowsAbove400);
    }

    private static void passThrowsAbove400() {
        for (int left = 1; left <= 50; left += 7) {
            MailPriory x = lists(1);
            x.join(0, 8, DIGEST);
            passTo(x, 0, 400 - left);
            int today = 400 - left;
            int tooMany = left + 1;
            sendPassed(x, 9, 0);
            x.rules(0, 10, 1, false);
            sendHeld(x, 9, 0);
            if (tooMany <= 50) {
                Check.throwsOf("one day too many", STATE, () -> x.pass(tooMany));
                Check.throwsOf("50 days", STATE, () -> x.pass(50));
            }
            Check.equal("nothing has lapsed by that", x.held(), 1);
            Check.equal("no day has ended by that", x.edition(0, today), 0);
            Check.equal("up to the day 400", x.pass(left), 1);
            Check.equal("it is the day 400", x.size(0, 400), 0);
            Check.equal("that day has ended", x.edition(0, today), 1);
            Check.throwsOf("no day more", STATE, () -> x.pass(1));
        }
    }

    private static void notPromised() {
        Sentences.noTest("How the state is held inside the object is free, as are the speed of each "
                + "call, the text of toString and the behaviour of equals and hashCode");
        Sentences.noTest("Use of one object from several threads at once is not promised to be safe");
        Sentences.noTest("Nothing is promised beyond the answers and state changes described above, "
                + "and nothing about an object after its 512th call");
    }
}
