import java.util.NoSuchElementException;

/**
 * A mail server with lists in lists, boxes, digests by days, a filter that scores mails, holds that
 * lapse, and a court of listers. Sets of persons, lists and words are ints: bit k stands for the
 * number k.
 */
public final class MailPriory {
    public static final int NONE = -1;
    public static final int DIRECT = 0, DIGEST = 1;
    public static final int PASSED = 0, HELD = 1, LAPSED = 2, CONDEMNED = 3;
    public static final int BARRED = 0, STRANGER = 1, SCORE = 2;

    private static final int PERSONS = 16;
    private static final int WORDS = 20;
    private static final int LISTS = 10;
    private static final int MAILS = 80;
    private static final int LAST_DAY = 400;
    private static final int LONGEST_PASS = 50;

    private static final int FIRST_LIMIT = 10;
    private static final int HIGHEST_LIMIT = 200;
    private static final int FIRST_PATIENCE = 7;
    private static final int LONGEST_PATIENCE = 30;
    private static final int LOWEST_WORD_WEIGHT = -20;
    private static final int HIGHEST_WORD_WEIGHT = 50;
    private static final int ANSWER_BONUS = 3;

    private static final int BOX_PLACES = 10;
    private static final int BOUNCES_TO_DIGEST = 3;

    private static final int JURORS = 3;
    private static final int DECIDING_VOTES = 2;
    private static final int CLEARED_WEIGHT = -10;
    private static final int CONDEMNED_STEP = 5;
    private static final int HIGHEST_PERSON_WEIGHT = 100;

    private final Person[] persons = new Person[PERSONS];
    private final int[] wordWeights = new int[WORDS];
    private final MailList[] mailLists = new MailList[LISTS];
    private int listCount = 0;
    private final Mail[] post = new Mail[MAILS];
    private int mailCount = 0;
    private final PostDay[] postDays = new PostDay[MAILS];
    private int postDayCount = 0;
    private int today = 0;

    public MailPriory() {
        for (int person = 0; person < PERSONS; person++) {
            persons[person] = new Person();
        }
    }

    // ---- lists and members

    public int list(int lister) throws IndexOutOfBoundsException, IllegalStateException {
        checkPerson(lister);
        if (listCount >= LISTS) {
            throw new IllegalStateException("there are 10 lists");
        }
        mailLists[listCount] = new MailList(lister);
        listCount++;
        return listCount - 1;
    }

    public int join(int list, int person, int mode)
            throws IndexOutOfBoundsException, IllegalArgumentException, IllegalStateException {
        MailList joined = findList(list);
        checkPerson(person);
        checkMode(mode);
        if (joined.hasMember(person)) {
            throw new IllegalStateException("the person is a member");
        }
        joined.putMember(person, mode);
        return Integer.bitCount(joined.members);
    }

    public int leave(int list, int person)
            throws IndexOutOfBoundsException, IllegalStateException {
        MailList left = findList(list);
        checkPerson(person);
        checkMember(left, person);
        int before = left.memberMode(person);
        left.dropMember(person);
        return before;
    }

    public int mode(int list, int person, int mode)
            throws IndexOutOfBoundsException, IllegalArgumentException, IllegalStateException {
        MailList changed = findList(list);
        checkPerson(person);
        checkMode(mode);
        checkMember(changed, person);
        int before = changed.memberMode(person);
        changed.putMember(person, mode);
        return before;
    }

    public boolean nest(int list, int part)
            throws IndexOutOfBoundsException, IllegalArgumentException {
        MailList outer = findList(list);
        findList(part);
        boolean isPart = contains(outer.parts, part);
        if (!isPart && contains(listsDown(part), list)) {
            throw new IllegalArgumentException("the list would be in itself");
        }
        outer.parts ^= bit(part);
        return !isPart;
    }

    public int rules(int list, int limit, int patience, boolean isClosed)
            throws IndexOutOfBoundsException, IllegalArgumentException {
        MailList ruled = findList(list);
        checkRange(limit, 1, HIGHEST_LIMIT);
        checkRange(patience, 1, LONGEST_PATIENCE);
        int before = ruled.limit;
        ruled.limit = limit;
        ruled.patience = patience;
        ruled.isClosed = isClosed;
        return before;
    }

    public boolean bar(int list, int person) throws IndexOutOfBoundsException {
        MailList barring = findList(list);
        checkPerson(person);
        barring.barred ^= bit(person);
        return contains(barring.barred, person);
    }

    public int word(int word, int weight)
            throws IndexOutOfBoundsException, IllegalArgumentException {
        if (word < 0 || word >= WORDS) {
            throw new IndexOutOfBoundsException("no such word");
        }
        checkRange(weight, LOWEST_WORD_WEIGHT, HIGHEST_WORD_WEIGHT);
        int before = wordWeights[word];
        wordWeights[word] = weight;
        return before;
    }

    public int reaches(int list) throws IndexOutOfBoundsException {
        findList(list);
        return membersOf(listsDown(list));
    }

    public int reachesByMembers(int list) throws IndexOutOfBoundsException {
        findList(list);
        int found = 0;
        for (int start = 0; start < listCount; start++) {
            if (contains(listsUp(start), list)) {
                found |= mailLists[start].members;
            }
        }
        return found;
    }

    public int modeOf(int list, int person) throws IndexOutOfBoundsException {
        findList(list);
        checkPerson(person);
        return modeAmong(listsDown(list), person);
    }

    // ---- mails

    public int send(int sender, int list, int words, int answers)
            throws IndexOutOfBoundsException, IllegalArgumentException, IllegalStateException {
        checkPerson(sender);
        MailList target = findList(list);
        if (answers != NONE) {
            findMail(answers);
        }
        checkRange(words, 0, bit(WORDS) - 1);
        if (mailCount >= MAILS) {
            throw new IllegalStateException("there are 80 mails");
        }
        int score = scoreOf(sender, words, answers);
        int cause = causeFor(sender, list, score);
        int number = mailCount;
        Mail mail = new Mail(number, sender, list, postDayOfToday(), score, cause, target.patience);
        post[number] = mail;
        mailCount++;
        if (cause == NONE) {
            deliver(mail);
        }
        return number;
    }

    public int approve(int mail) throws IndexOutOfBoundsException, IllegalStateException {
        Mail approved = findMail(mail);
        checkListerMayDecide(approved);
        deliver(approved);
        settleEditions();
        return approved.reachedPersons;
    }

    public int refuse(int mail) throws IndexOutOfBoundsException, IllegalStateException {
        Mail refused = findMail(mail);
        checkListerMayDecide(refused);
        refused.state = CONDEMNED;
        return refused.score;
    }

    public int appeal(int mail) throws IndexOutOfBoundsException, IllegalStateException {
        Mail appealed = findMail(mail);
        if (appealed.state != HELD || appealed.appeal != null) {
            throw new IllegalStateException("the mail is not held, or was appealed for");
        }
        int candidates = jurorCandidates(appealed);
        if (Integer.bitCount(candidates) < JURORS) {
            throw new IllegalStateException("there are fewer than three jurors");
        }
        int chosen = chooseJurors(candidates);
        appealed.appeal = new Appeal(chosen);
        return chosen;
    }

    public int vote(int mail, int person, boolean isFor)
            throws IndexOutOfBoundsException, IllegalStateException {
        Mail judgedMail = findMail(mail);
        checkPerson(person);
        Appeal appeal = judgedMail.appeal;
        if (appeal == null || !contains(appeal.awaitedJurors(), person)) {
            throw new IllegalStateException("no vote of this person is awaited");
        }
        appeal.takeVote(person, isFor);
        persons[person].votes++;
        if (appeal.isDecided(true)) {
            clearSender(judgedMail);
        } else if (appeal.isDecided(false)) {
            condemnByCourt(judgedMail);
        }
        return judgedMail.state;
    }

    public int state(int mail) throws IndexOutOfBoundsException {
        return findMail(mail).state;
    }

    public int cause(int mail) throws IndexOutOfBoundsException {
        return findMail(mail).cause;
    }

    public int score(int mail) throws IndexOutOfBoundsException {
        return findMail(mail).score;
    }

    public int lapses(int mail) throws IndexOutOfBoundsException {
        Mail asked = findMail(mail);
        return asked.canLapse() ? asked.lapseDay : NONE;
    }

    public int jurors(int mail) throws IndexOutOfBoundsException {
        Appeal appeal = findMail(mail).appeal;
        return appeal == null ? 0 : appeal.awaitedJurors();
    }

    public int reached(int mail) throws IndexOutOfBoundsException {
        return findMail(mail).reachedPersons;
    }

    public int mails() {
        return mailCount;
    }

    public int held() {
        int count = 0;
        for (int number = 0; number < mailCount; number++) {
            if (post[number].state == HELD) {
                count++;
            }
        }
        return count;
    }

    // ---- persons

    public int weight(int person) throws IndexOutOfBoundsException {
        checkPerson(person);
        return persons[person].weight;
    }

    public int judged(int person) throws IndexOutOfBoundsException {
        checkPerson(person);
        return persons[person].votes;
    }

    public int bounces(int person) throws IndexOutOfBoundsException {
        checkPerson(person);
        return persons[person].bounces;
    }

    public int box(int person) throws IndexOutOfBoundsException {
        checkPerson(person);
        return persons[person].boxed;
    }

    public int mailAt(int person, int place) throws IndexOutOfBoundsException {
        checkPerson(person);
        if (place < 0 || place >= persons[person].boxed) {
            throw new IndexOutOfBoundsException("no such place");
        }
        return persons[person].box[place];
    }

    public int read(int person) throws IndexOutOfBoundsException {
        checkPerson(person);
        return persons[person].takeFirst();
    }

    // ---- digests and days

    public int size(int list, int day)
            throws IndexOutOfBoundsException, IllegalArgumentException {
        findList(list);
        checkRange(day, 0, today);
        int count = 0;
        for (int number = 0; number < mailCount; number++) {
            if (post[number].isInDigest(list, day)) {
                count++;
            }
        }
        return count;
    }

    public int digest(int list, int day, int place)
            throws IndexOutOfBoundsException, IllegalArgumentException, NoSuchElementException {
        findList(list);
        checkRange(day, 0, today);
        int ahead = 0;
        for (int number = 0; number < mailCount; number++) {
            if (post[number].isInDigest(list, day)) {
                if (ahead == place) {
                    return number;
                }
                ahead++;
            }
        }
        throw new NoSuchElementException("the digest has no such place");
    }

    public int edition(int list, int day)
            throws IndexOutOfBoundsException, IllegalArgumentException {
        findList(list);
        checkRange(day, 0, today);
        PostDay asked = findPostDay(day);
        return asked == null || !asked.hasDigest(list) ? NONE : asked.editions[list];
    }

    public int readers(int list, int day)
            throws IndexOutOfBoundsException, IllegalArgumentException {
        findList(list);
        checkRange(day, 0, today);
        PostDay asked = findPostDay(day);
        return asked == null ? 0 : asked.digestReaders[list];
    }

    public int pass(int days) throws IllegalArgumentException, IllegalStateException {
        checkRange(days, 1, LONGEST_PASS);
        if (today + days > LAST_DAY) {
            throw new IllegalStateException("today would be above 400");
        }
        PostDay ending = findPostDay(today);
        if (ending != null) {
            ending.end();
        }
        today += days;
        return lapseHolds();
    }

    // ---- what the calls ask of their arguments

    private MailList findList(int list) {
        if (list < 0 || list >= listCount) {
            throw new IndexOutOfBoundsException("no such list");
        }
        return mailLists[list];
    }

    private Mail findMail(int mail) {
        if (mail < 0 || mail >= mailCount) {
            throw new IndexOutOfBoundsException("no such mail");
        }
        return post[mail];
    }

    private static void checkPerson(int person) {
        if (person < 0 || person >= PERSONS) {
            throw new IndexOutOfBoundsException("no such person");
        }
    }

    private static void checkMode(int mode) {
        if (mode != DIRECT && mode != DIGEST) {
            throw new IllegalArgumentException("no such mode");
        }
    }

    private static void checkRange(int number, int lowest, int highest) {
        if (number < lowest || number > highest) {
            throw new IllegalArgumentException("out of its range");
        }
    }

    private static void checkMember(MailList list, int person) {
        if (!list.hasMember(person)) {
            throw new IllegalStateException("the person is no member");
        }
    }

    private static void checkListerMayDecide(Mail mail) {
        if (mail.state != HELD || mail.isAppealOpen()) {
            throw new IllegalStateException("the mail is not held, or an appeal is open");
        }
    }

    // ---- sets

    private static int bit(int number) {
        return 1 << number;
    }

    private static boolean contains(int set, int number) {
        return ((set >> number) & 1) != 0;
    }

    // ---- lists in lists

    /** The list and all that are in it. No chain of parts is longer than the number of lists. */
    private int listsDown(int list) {
        int found = bit(list);
        for (int round = 0; round < listCount; round++) {
            for (int outer = 0; outer < listCount; outer++) {
                if (contains(found, outer)) {
                    found |= mailLists[outer].parts;
                }
            }
        }
        return found;
    }

    /** The list and all in which it is. */
    private int listsUp(int list) {
        int found = bit(list);
        for (int round = 0; round < listCount; round++) {
            for (int outer = 0; outer < listCount; outer++) {
                if ((mailLists[outer].parts & found) != 0) {
                    found |= bit(outer);
                }
            }
        }
        return found;
    }

    private int membersOf(int lists) {
        int members = 0;
        for (int list = 0; list < listCount; list++) {
            if (contains(lists, list)) {
                members |= mailLists[list].members;
            }
        }
        return members;
    }

    private int modeAmong(int lists, int person) {
        int found = NONE;
        for (int list = 0; list < listCount; list++) {
            if (contains(lists, list) && mailLists[list].hasMember(person)) {
                if (mailLists[list].memberMode(person) == DIRECT) {
                    return DIRECT;
                }
                found = DIGEST;
            }
        }
        return found;
    }

    private int lowestWithMember(int lists, int person) {
        for (int list = 0; list < listCount; list++) {
            if (contains(lists, list) && mailLists[list].hasMember(person)) {
                return list;
            }
        }
        return NONE;
    }

    // ---- the filter

    private int scoreOf(int sender, int words, int answers) {
        int score = persons[sender].weight + sentToday(sender);
        for (int word = 0; word < WORDS; word++) {
            if (contains(words, word)) {
                score += wordWeights[word];
            }
        }
        return answersOwnPost(sender, answers) ? score - ANSWER_BONUS : score;
    }

    private int sentToday(int sender) {
        int count = 0;
        for (int number = 0; number < mailCount; number++) {
            if (post[number].sender == sender && post[number].day.number == today) {
                count++;
            }
        }
        return count;
    }

    private boolean answersOwnPost(int sender, int answers) {
        if (answers < 0 || answers >= mailCount) {
            return false;
        }
        Mail answered = post[answers];
        return answered.sender == sender || contains(answered.reachedPersons, sender);
    }

    private int causeFor(int sender, int list, int score) {
        MailList target = mailLists[list];
        if (contains(target.barred, sender)) {
            return BARRED;
        }
        if (target.isClosed && !contains(membersOf(listsDown(list)), sender)) {
            return STRANGER;
        }
        return score >= target.limit ? SCORE : NONE;
    }

    // ---- delivery

    private void deliver(Mail mail) {
        mail.state = PASSED;
        int lists = listsDown(mail.list);
        for (int person = 0; person < PERSONS; person++) {
            if (person != mail.sender) {
                deliverTo(mail, person, lists);
            }
        }
    }

    private void deliverTo(Mail mail, int person, int lists) {
        int lowest = lowestWithMember(lists, person);
        if (lowest == NONE) {
            return;
        }
        if (modeAmong(lists, person) == DIGEST) {
            putIntoDigest(mail, person, lowest);
        } else if (persons[person].hasRoom()) {
            persons[person].putIntoBox(mail.number);
            mail.reachedPersons |= bit(person);
        } else {
            bounce(person);
        }
    }

    private void putIntoDigest(Mail mail, int person, int list) {
        mail.digestLists |= bit(list);
        mail.day.addReader(list, person);
        mail.reachedPersons |= bit(person);
    }

    private void bounce(int person) {
        persons[person].bounces++;
        if (persons[person].bounces < BOUNCES_TO_DIGEST) {
            return;
        }
        persons[person].bounces = 0;
        for (int list = 0; list < listCount; list++) {
            if (mailLists[list].hasMember(person)) {
                mailLists[list].putMember(person, DIGEST);
            }
        }
    }

    // ---- the court

    private int jurorCandidates(Mail mail) {
        int listers = 0;
        for (int list = 0; list < listCount; list++) {
            listers |= bit(mailLists[list].lister);
        }
        return listers & ~bit(mail.sender) & ~bit(mailLists[mail.list].lister);
    }

    private int chooseJurors(int candidates) {
        int chosen = 0;
        for (int place = 0; place < JURORS; place++) {
            int next = leastJudged(candidates & ~chosen);
            if (next != NONE) {
                chosen |= bit(next);
            }
        }
        return chosen;
    }

    private int leastJudged(int candidates) {
        int least = NONE;
        for (int person = 0; person < PERSONS; person++) {
            if (contains(candidates, person)
                    && (least == NONE || persons[person].votes < persons[least].votes)) {
                least = person;
            }
        }
        return least;
    }

    private void clearSender(Mail won) {
        persons[won.sender].weight = CLEARED_WEIGHT;
        for (int number = 0; number < mailCount; number++) {
            Mail mail = post[number];
            if (mail == won || (mail.sender == won.sender && mail.isHeldForScore())) {
                mail.closeAppeal();
                deliver(mail);
            }
        }
        settleEditions();
    }

    private void condemnByCourt(Mail lost) {
        lost.state = CONDEMNED;
        lost.closeAppeal();
        Person sender = persons[lost.sender];
        sender.weight = Math.min(sender.weight + CONDEMNED_STEP, HIGHEST_PERSON_WEIGHT);
    }

    // ---- days

    private PostDay findPostDay(int day) {
        for (int place = 0; place < postDayCount; place++) {
            if (postDays[place].number == day) {
                return postDays[place];
            }
        }
        return null;
    }

    /** Only send asks for it, and makes a mail then: so no more days are kept than mails. */
    private PostDay postDayOfToday() {
        PostDay found = findPostDay(today);
        if (found != null) {
            return found;
        }
        PostDay made = new PostDay(today);
        if (postDayCount < MAILS) {
            postDays[postDayCount] = made;
            postDayCount++;
        }
        return made;
    }

    private void settleEditions() {
        for (int place = 0; place < postDayCount; place++) {
            postDays[place].settleEditions();
        }
    }

    private int lapseHolds() {
        int count = 0;
        for (int number = 0; number < mailCount; number++) {
            Mail mail = post[number];
            if (mail.canLapse() && mail.lapseDay <= today) {
                mail.state = LAPSED;
                count++;
            }
        }
        return count;
    }

    private static final class Person {
        int weight = 0;
        int votes = 0;
        int bounces = 0;
        final int[] box = new int[BOX_PLACES];
        int boxed = 0;

        boolean hasRoom() {
            return boxed < BOX_PLACES;
        }

        void putIntoBox(int mail) {
            if (hasRoom()) {
                box[boxed] = mail;
                boxed++;
            }
        }

        int takeFirst() {
            if (boxed == 0) {
                return NONE;
            }
            int first = box[0];
            boxed--;
            System.arraycopy(box, 1, box, 0, boxed);
            return first;
        }
    }

    private static final class MailList {
        final int lister;
        int members = 0;
        int directMembers = 0;
        int parts = 0;
        int barred = 0;
        int limit = FIRST_LIMIT;
        int patience = FIRST_PATIENCE;
        boolean isClosed = false;

        MailList(int lister) {
            this.lister = lister;
        }

        boolean hasMember(int person) {
            return contains(members, person);
        }

        int memberMode(int person) {
            return contains(directMembers, person) ? DIRECT : DIGEST;
        }

        void putMember(int person, int mode) {
            members |= bit(person);
            if (mode == DIRECT) {
                directMembers |= bit(person);
            } else {
                directMembers &= ~bit(person);
            }
        }

        void dropMember(int person) {
            members &= ~bit(person);
            directMembers &= ~bit(person);
        }
    }

    private static final class Mail {
        final int number;
        final int sender;
        final int list;
        final PostDay day;
        final int score;
        final int cause;
        final int lapseDay;
        int state = HELD;
        int reachedPersons = 0;
        /** The lists in whose digests of the day it is. */
        int digestLists = 0;
        /** Null as long as nobody has appealed. */
        Appeal appeal = null;

        Mail(int number, int sender, int list, PostDay day, int score, int cause, int patience) {
            this.number = number;
            this.sender = sender;
            this.list = list;
            this.day = day;
            this.score = score;
            this.cause = cause;
            this.lapseDay = day.number + patience;
        }

        boolean isHeldForScore() {
            return state == HELD && cause == SCORE;
        }

        boolean isAppealOpen() {
            return appeal != null && appeal.isOpen;
        }

        /** An appeal ends only with the hold itself, so a mail that was appealed never lapses. */
        boolean canLapse() {
            return state == HELD && appeal == null;
        }

        void closeAppeal() {
            if (appeal != null) {
                appeal.isOpen = false;
            }
        }

        boolean isInDigest(int digestList, int digestDay) {
            return day.number == digestDay && contains(digestLists, digestList);
        }
    }

    private static final class Appeal {
        final int chosenJurors;
        int votersFor = 0;
        int votersAgainst = 0;
        boolean isOpen = true;

        Appeal(int chosenJurors) {
            this.chosenJurors = chosenJurors;
        }

        int awaitedJurors() {
            return isOpen ? chosenJurors & ~votersFor & ~votersAgainst : 0;
        }

        void takeVote(int person, boolean isFor) {
            if (isFor) {
                votersFor |= bit(person);
            } else {
                votersAgainst |= bit(person);
            }
        }

        boolean isDecided(boolean isFor) {
            return Integer.bitCount(isFor ? votersFor : votersAgainst) >= DECIDING_VOTES;
        }
    }

    /** A day on which mails were sent, with its digests, one for each list with readers then. */
    private static final class PostDay {
        final int number;
        final int[] digestReaders = new int[LISTS];
        final int[] editions = new int[LISTS];
        /** The lists whose digests took mails after the day: kept to count them once a call. */
        int lateLists = 0;
        boolean isOver = false;

        PostDay(int number) {
            this.number = number;
        }

        boolean hasDigest(int list) {
            return digestReaders[list] != 0;
        }

        void addReader(int list, int person) {
            digestReaders[list] |= bit(person);
            if (isOver) {
                lateLists |= bit(list);
            }
        }

        void end() {
            isOver = true;
            for (int list = 0; list < LISTS; list++) {
                if (hasDigest(list)) {
                    editions[list] = 1;
                }
            }
        }

        void settleEditions() {
            for (int list = 0; list < LISTS; list++) {
                if (contains(lateLists, list)) {
                    editions[list]++;
                }
            }
            lateLists = 0;
        }
    }
}
