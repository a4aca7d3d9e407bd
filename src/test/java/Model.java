import java.util.ArrayList;
import java.util.List;
import java.util.NoSuchElementException;
import java.util.SortedMap;
import java.util.SortedSet;
import java.util.TreeMap;
import java.util.TreeSet;

/**
 * The document written a second time, by other means than the class (library sets, recursion, and
 * nothing kept that can be found anew), so that a slip in one of them shows.
 */
final class Model {
    private static final class Group {
        int lister;
        final SortedMap<Integer, Integer> modes = new TreeMap<>();
        final SortedSet<Integer> parts = new TreeSet<>();
        final SortedSet<Integer> barred = new TreeSet<>();
        int limit = 10;
        int patience = 7;
        boolean isClosed;
    }

    private static final class Letter {
        int sender;
        int group;
        int day;
        int score;
        int cause;
        int patience;
        int state;
        final SortedSet<Integer> reached = new TreeSet<>();
        boolean wasAppealed;
        boolean isOpen;
        final SortedSet<Integer> jurors = new TreeSet<>();
        final SortedMap<Integer, Boolean> votes = new TreeMap<>();
    }

    private static final class Paper {
        final SortedSet<Integer> letters = new TreeSet<>();
        final SortedSet<Integer> readers = new TreeSet<>();
        int edition;
    }

    private final List<Group> groups = new ArrayList<>();
    private final List<Letter> letters = new ArrayList<>();
    private final SortedMap<Integer, Paper> papers = new TreeMap<>();
    private final int[] wordWeights = new int[20];
    private final int[] weights = new int[16];
    private final int[] judged = new int[16];
    private final int[] bounces = new int[16];
    private final List<List<Integer>> boxes = new ArrayList<>();
    private final SortedSet<Integer> papersMadeAgain = new TreeSet<>();
    private int today = 0;

    /** How often the rarer things came about: a long run that never meets them proves little. */
    final SortedMap<String, Integer> met = new TreeMap<>();

    Model() {
        for (int person = 0; person < 16; person++) {
            boxes.add(new ArrayList<>());
        }
    }

    private void meet(String what) {
        met.merge(what, 1, Integer::sum);
    }

    private static void index(boolean isThere) {
        if (!isThere) {
            throw new IndexOutOfBoundsException();
        }
    }

    private static void argument(boolean isRight) {
        if (!isRight) {
            throw new IllegalArgumentException();
        }
    }

    private static void state(boolean isRight) {
        if (!isRight) {
            throw new IllegalStateException();
        }
    }

    private void group(int list) {
        index(list >= 0 && list < groups.size());
    }

    private void person(int person) {
        index(person >= 0 && person <= 15);
    }

    private void letter(int mail) {
        index(mail >= 0 && mail < letters.size());
    }

    private static int set(Iterable<Integer> numbers) {
        int set = 0;
        for (int number : numbers) {
            set |= 1 << number;
        }
        return set;
    }

    private SortedSet<Integer> withParts(int list) {
        SortedSet<Integer> all = new TreeSet<>();
        all.add(list);
        for (int part : groups.get(list).parts) {
            all.addAll(withParts(part));
        }
        return all;
    }

    int list(int lister) {
        person(lister);
        state(groups.size() < 10);
        Group made = new Group();
        made.lister = lister;
        groups.add(made);
        return groups.size() - 1;
    }

    int join(int list, int person, int mode) {
        group(list);
        person(person);
        argument(mode == 0 || mode == 1);
        state(!groups.get(list).modes.containsKey(person));
        groups.get(list).modes.put(person, mode);
        return groups.get(list).modes.size();
    }

    int leave(int list, int person) {
        group(list);
        person(person);
        state(groups.get(list).modes.containsKey(person));
        return groups.get(list).modes.remove(person);
    }

    int mode(int list, int person, int mode) {
        group(list);
        person(person);
        argument(mode == 0 || mode == 1);
        state(groups.get(list).modes.containsKey(person));
        return groups.get(list).modes.put(person, mode);
    }

    int nest(int list, int part) {
        group(list);
        group(part);
        if (groups.get(list).parts.remove(part)) {
            return 0;
        }
        argument(!withParts(part).contains(list));
        groups.get(list).parts.add(part);
        return 1;
    }

    int rules(int list, int limit, int patience, boolean isClosed) {
        group(list);
        argument(limit >= 1 && limit <= 200 && patience >= 1 && patience <= 30);
        Group group = groups.get(list);
        int before = group.limit;
        group.limit = limit;
        group.patience = patience;
        group.isClosed = isClosed;
        return before;
    }

    int bar(int list, int person) {
        group(list);
        person(person);
        if (groups.get(list).barred.remove(person)) {
            return 0;
        }
        groups.get(list).barred.add(person);
        return 1;
    }

    int word(int word, int weight) {
        index(word >= 0 && word <= 19);
        argument(weight >= -20 && weight <= 50);
        int before = wordWeights[word];
        wordWeights[word] = weight;
        return before;
    }

    int reaches(int list) {
        group(list);
        SortedSet<Integer> persons = new TreeSet<>();
        for (int one : withParts(list)) {
            persons.addAll(groups.get(one).modes.keySet());
        }
        return set(persons);
    }

    int modeOf(int list, int person) {
        group(list);
        person(person);
        int found = -1;
        for (int one : withParts(list)) {
            Integer mode = groups.get(one).modes.get(person);
            if (mode != null && (found == -1 || mode == 0)) {
                found = mode;
            }
        }
        return found;
    }

    int send(int sender, int list, int words, int answers) {
        person(sender);
        group(list);
        if (answers != -1) {
            letter(answers);
        }
        argument(words >= 0 && words <= 1048575);
        state(letters.size() < 80);
        Letter sent = new Letter();
        sent.sender = sender;
        sent.group = list;
        sent.day = today;
        sent.patience = groups.get(list).patience;
        sent.score = scoreOf(sender, words, answers);
        sent.cause = causeOf(sent);
        sent.state = sent.cause == -1 ? 0 : 1;
        letters.add(sent);
        if (sent.cause == -1) {
            letPass(letters.size() - 1);
        }
        return letters.size() - 1;
    }

    private int scoreOf(int sender, int words, int answers) {
        int score = weights[sender];
        for (int word = 0; word < 20; word++) {
            score += (words >> word & 1) * wordWeights[word];
        }
        for (Letter earlier : letters) {
            score += earlier.sender == sender && earlier.day == today ? 1 : 0;
        }
        if (answers != -1 && letters.get(answers).reached.contains(sender)) {
            meet("an answer to a mail that reached");
            return score - 3;
        }
        if (answers != -1 && letters.get(answers).sender == sender) {
            meet("an answer to an own mail");
            return score - 3;
        }
        return score;
    }

    private int causeOf(Letter sent) {
        Group group = groups.get(sent.group);
        if (group.barred.contains(sent.sender)) {
            meet("BARRED");
            return 0;
        }
        if (group.isClosed && (reaches(sent.group) >> sent.sender & 1) == 0) {
            meet("STRANGER");
            return 1;
        }
        if (sent.score >= group.limit) {
            meet("SCORE");
            return 2;
        }
        return -1;
    }

    private void letPass(int number) {
        Letter passing = letters.get(number);
        passing.state = 0;
        int reachable = reaches(passing.group);
        for (int person = 0; person < 16; person++) {
            if ((reachable >> person & 1) == 0 || person == passing.sender) {
                continue;
            }
            if (modeOf(passing.group, person) == 1) {
                intoPaper(number, person);
            } else {
                intoBox(number, person);
            }
        }
    }

    private void intoBox(int number, int person) {
        if (boxes.get(person).size() < 10) {
            boxes.get(person).add(number);
            letters.get(number).reached.add(person);
            return;
        }
        meet("a bounce");
        bounces[person]++;
        if (bounces[person] == 3) {
            meet("a third bounce");
            bounces[person] = 0;
            for (Group group : groups) {
                group.modes.computeIfPresent(person, (who, mode) -> 1);
            }
        }
    }

    private void intoPaper(int number, int person) {
        Letter passing = letters.get(number);
        for (int one : withParts(passing.group)) {
            if (groups.get(one).modes.containsKey(person)) {
                int key = one * 1000 + passing.day;
                Paper paper = papers.computeIfAbsent(key, made -> new Paper());
                if (passing.day < today && papersMadeAgain.add(key)) {
                    meet(paper.edition == 0 ? "a new digest of an old day" : "a digest made again");
                    paper.edition++;
                } else if (passing.day < today && !paper.letters.contains(number)) {
                    meet("a second late mail of a digest in a call");
                }
                paper.letters.add(number);
                paper.readers.add(person);
                passing.reached.add(person);
                return;
            }
        }
    }

    int approve(int mail) {
        letter(mail);
        state(letters.get(mail).state == 1 && !letters.get(mail).isOpen);
        papersMadeAgain.clear();
        letPass(mail);
        return set(letters.get(mail).reached);
    }

    int refuse(int mail) {
        letter(mail);
        state(letters.get(mail).state == 1 && !letters.get(mail).isOpen);
        letters.get(mail).state = 3;
        return letters.get(mail).score;
    }

    int appeal(int mail) {
        letter(mail);
        Letter appealed = letters.get(mail);
        state(appealed.state == 1 && !appealed.wasAppealed);
        List<Integer> candidates = new ArrayList<>();
        for (int person = 0; person < 16; person++) {
            for (Group group : groups) {
                if (group.lister == person && !candidates.contains(person)) {
                    candidates.add(person);
                }
            }
        }
        candidates.remove((Integer) appealed.sender);
        candidates.remove((Integer) groups.get(appealed.group).lister);
        state(candidates.size() >= 3);
        candidates.sort((a, b) -> judged[a] != judged[b] ? judged[a] - judged[b] : a - b);
        appealed.jurors.addAll(candidates.subList(0, 3));
        appealed.wasAppealed = true;
        appealed.isOpen = true;
        return set(appealed.jurors);
    }

    int vote(int mail, int person, boolean isFor) {
        letter(mail);
        person(person);
        Letter tried = letters.get(mail);
        state(tried.isOpen && tried.jurors.contains(person) && !tried.votes.containsKey(person));
        tried.votes.put(person, isFor);
        judged[person]++;
        int alike = 0;
        for (boolean other : tried.votes.values()) {
            alike += other == isFor ? 1 : 0;
        }
        if (alike == 2 && isFor) {
            meet("a clearing");
            clear(mail);
        } else if (alike == 2) {
            meet("a condemnation");
            tried.isOpen = false;
            tried.state = 3;
            weights[tried.sender] = Math.min(100, weights[tried.sender] + 5);
        }
        return tried.state;
    }

    private void clear(int mail) {
        int sender = letters.get(mail).sender;
        weights[sender] = -10;
        papersMadeAgain.clear();
        for (int number = 0; number < letters.size(); number++) {
            Letter other = letters.get(number);
            if (number == mail || other.sender == sender && other.state == 1 && other.cause == 2) {
                meet(number == mail ? "a mail cleared" : other.isOpen
                        ? "another mail cleared, with its appeal" : "another mail cleared");
                other.isOpen = false;
                letPass(number);
            }
        }
    }

    int stateOf(int mail) {
        letter(mail);
        return letters.get(mail).state;
    }

    int cause(int mail) {
        letter(mail);
        return letters.get(mail).cause;
    }

    int score(int mail) {
        letter(mail);
        return letters.get(mail).score;
    }

    int lapses(int mail) {
        letter(mail);
        Letter asked = letters.get(mail);
        return asked.state == 1 && !asked.wasAppealed ? asked.day + asked.patience : -1;
    }

    int jurors(int mail) {
        letter(mail);
        SortedSet<Integer> awaited = new TreeSet<>(letters.get(mail).jurors);
        awaited.removeAll(letters.get(mail).votes.keySet());
        return letters.get(mail).isOpen ? set(awaited) : 0;
    }

    int reached(int mail) {
        letter(mail);
        return set(letters.get(mail).reached);
    }

    int mails() {
        return letters.size();
    }

    int held() {
        int count = 0;
        for (Letter letter : letters) {
            count += letter.state == 1 ? 1 : 0;
        }
        return count;
    }

    int weight(int person) {
        person(person);
        return weights[person];
    }

    int judged(int person) {
        person(person);
        return judged[person];
    }

    int bounces(int person) {
        person(person);
        return bounces[person];
    }

    int box(int person) {
        person(person);
        return boxes.get(person).size();
    }

    int mailAt(int person, int place) {
        person(person);
        index(place >= 0 && place < boxes.get(person).size());
        return boxes.get(person).get(place);
    }

    int read(int person) {
        person(person);
        return boxes.get(person).isEmpty() ? -1 : boxes.get(person).remove(0);
    }

    private Paper paper(int list, int day) {
        group(list);
        argument(day >= 0 && day <= today);
        return papers.get(list * 1000 + day);
    }

    int size(int list, int day) {
        Paper paper = paper(list, day);
        return paper == null ? 0 : paper.letters.size();
    }

    int digest(int list, int day, int place) {
        Paper paper = paper(list, day);
        if (paper == null || place < 0 || place >= paper.letters.size()) {
            throw new NoSuchElementException();
        }
        return new ArrayList<>(paper.letters).get(place);
    }

    int edition(int list, int day) {
        Paper paper = paper(list, day);
        return paper == null ? -1 : paper.edition;
    }

    int readers(int list, int day) {
        Paper paper = paper(list, day);
        return paper == null ? 0 : set(paper.readers);
    }

    /** Day by day, as the document tells it. */
    int pass(int days) {
        argument(days >= 1 && days <= 50);
        state(today + days <= 400);
        int lapsed = 0;
        for (int step = 0; step < days; step++) {
            for (int key : papers.keySet()) {
                if (key % 1000 == today) {
                    papers.get(key).edition = 1;
                }
            }
            today++;
            for (Letter letter : letters) {
                if (letter.state == 1 && !letter.isOpen && letter.day + letter.patience == today) {
                    letter.state = 2;
                    lapsed++;
                    meet("a lapse");
                } else if (letter.isOpen && letter.day + letter.patience == today) {
                    meet("no lapse under appeal");
                }
            }
        }
        return lapsed;
    }
}
