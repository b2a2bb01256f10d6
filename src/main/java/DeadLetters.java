import java.util.Arrays;

/**
 * A house to which letters go that can't be delivered, where they are read aloud to a class.
 * The document's words in capitals are used here as it means them.
 */
public final class DeadLetters {
    public static final int NONE = -1;

    private static final int TRAITS = 8;
    private static final int ALL_TRAITS = 255;
    private static final int LETTER_ROOM = 8;
    private static final int CHILD_ROOM = 6;
    private static final int TOLD_ROOM = 8;
    private static final int LAW_ROOM = 6;
    private static final int IMAGE_ROOM = 2;
    private static final int TAPE_ROOM = 400;
    private static final int CLAUSE_ROOM = 12;
    private static final int PART_ROOM = 50;
    private static final int BRACKET_ROOM = 8;
    private static final int TRAIL_ROOM = 16;
    private static final int SETS = 256;

    private static final int LAST_DAY = 999;
    private static final int HIGHEST_HOUSE = 9;
    private static final int HIGHEST_NUMBER = 1000;
    private static final int HIGHEST_TIMES = 20;
    private static final int HIGHEST_GROWN = 99;
    private static final int HIGHEST_WORTH = 99;
    private static final int NO_LETTER = 100;
    private static final int HIGHEST_SEED = 1000000;
    private static final int MOST_TIMES_OF_SCHOOL = 60;
    private static final int MOST_DAYS_ON = 60;
    private static final long WHOLE_CHANCE = 1000000000000L;

    private static final int DAY = 0;
    private static final int FOUND = 1;
    private static final int MOOD = 2;

    private static final int NO_NUMBER = -1;
    private static final int NOT_THERE = -2;
    private static final int CANNOT_BE = -3;
    private static final int NO_ROOM = -5;
    private static final int NO_TEXT = -6;

    private static final int READ = 0;
    private static final int ANSWER = 1;
    private static final int LOSE = 2;
    private static final int PASS = 3;
    private static final String ORDER_KINDS = "read answer lose pass";
    private static final String ORDER_LINKS = "to by of";
    private static final String ORDER_WORDS = "day done latest open knows grown";
    private static final int KNOWS_OF = 4;
    private static final int GROWN_OF = 10;

    private static final int WORTH = 0;
    private static final int SHUNS = 1;
    private static final int FADES = 2;
    private static final int BARS = 3;
    private static final String LAW_KINDS = "worth shuns fades bars";
    private static final String LAW_WORDS = "child letter trait knows bears grown house served day mood";

    private final Asker asker;
    private final House house;
    private final House ahead;
    private final House[] images;
    private final boolean[] kept;
    private final Trail trail;
    private final Trail trailAhead;
    private final Tape tape;
    private final Reader reader;
    private final Paper paper;
    private final School school;
    private final int[] refusals;
    private int status;
    private int stoppedClause;
    private int blotCount;
    private int done;
    private int latest;

    public DeadLetters() {
        asker = new Asker();
        house = new House(asker);
        ahead = new House(asker);
        images = new House[IMAGE_ROOM];
        for (int k = 0; k < IMAGE_ROOM; k++) {
            images[k] = new House(asker);
        }
        kept = new boolean[IMAGE_ROOM];
        trail = new Trail();
        trailAhead = new Trail();
        tape = new Tape();
        reader = new Reader(tape);
        paper = new Paper(house, asker);
        school = new School(asker);
        refusals = new int[5];
        stoppedClause = NONE;
    }

    public int letter(int content, int need, int house) {
        if (!House.canHold(content, need, house)) {
            return refuse(NO_NUMBER);
        }
        if (this.house.letters >= LETTER_ROOM) {
            return refuse(NO_ROOM);
        }
        trail.clear();
        return accept(this.house.addLetter(content, need, house));
    }

    public int at(int letter, int what) {
        if (!house.hasLetter(letter)) {
            return NONE;
        }
        switch (what) {
            case 0:
                return house.content[letter];
            case 1:
                return house.need[letter];
            case 2:
                return house.home[letter];
            case 3:
                return house.isAnswered(letter) ? 1 : 0;
            default:
                return NONE;
        }
    }

    public int child(int bears) {
        if (bears < 1 || bears > TRAITS) {
            return refuse(NO_NUMBER);
        }
        if (house.children >= CHILD_ROOM) {
            return refuse(NO_ROOM);
        }
        trail.clear();
        return accept(house.addChild(bears));
    }

    public int of(int child, int what) {
        if (!house.hasChild(child) || what < 0 || what >= 3 + TRAITS) {
            return NONE;
        }
        switch (what) {
            case 0:
                return house.knows[child];
            case 1:
                return house.bears[child];
            case 2:
                return house.grown[child];
            default:
                return asker.holdsNow(house, FADES, child, NONE, what - 3) ? 1 : 0;
        }
    }

    public int asks(int child, int letter, int what) {
        if (!house.hasChild(child) || !house.hasLetter(letter) || what < 0 || what >= 3 + TRAITS) {
            return NONE;
        }
        switch (what) {
            case 0:
                return Integer.bitCount(house.need[letter] & house.knows[child]);
            case 1:
                return asker.worthOf(house, house.lawInForce(), child, letter);
            case 2:
                return asker.holdsNow(house, BARS, child, letter, NONE) ? 1 : 0;
            default:
                return asker.holdsNow(house, SHUNS, child, letter, what - 3) ? 1 : 0;
        }
    }

    public int terms(int what, int value) {
        if (what < DAY || what > MOOD || value < 0 || value > highestTerm(what)) {
            return refuse(NO_NUMBER);
        }
        trail.clear();
        int before = house.term[what];
        house.term[what] = value;
        return accept(before);
    }

    public int feed(int a, int b, int c, int d, int e) {
        if (!tape.hasRoom(20)) {
            return NONE;
        }
        tape.append(a);
        tape.append(b);
        tape.append(c);
        tape.append(d);
        tape.append(e);
        return tape.length;
    }

    public int end(int n) {
        if (n < 0 || n > tape.length) {
            return NONE;
        }
        tape.length = n;
        return n;
    }

    public int row() {
        if (tape.length == 0) {
            return refuse(NO_TEXT);
        }
        trail.clear();
        blotCount = 0;
        int came = 0;
        for (int i = 0; i < tape.length; i += 3) {
            if (takeLetter(i)) {
                came++;
            } else {
                blotCount++;
            }
        }
        tape.length = 0;
        return accept(came);
    }

    public int blots() {
        return blotCount;
    }

    public int law() {
        if (house.laws >= LAW_ROOM) {
            tape.length = 0;
            return refuse(NO_ROOM);
        }
        boolean good = reader.take(false);
        tape.length = 0;
        return good ? accept(house.addLaw(reader.text.compact())) : refuse(NO_TEXT);
    }

    public int orders() {
        stoppedClause = NONE;
        boolean good = reader.take(true);
        tape.length = 0;
        if (!good) {
            return refuse(NO_TEXT);
        }
        Text text = reader.text;
        ahead.copyFrom(house);
        trailAhead.copyFrom(trail);
        done = 0;
        latest = NONE;
        for (int clause = 0; clause < text.clauses; clause++) {
            for (int time = 0; time < text.times[clause]; time++) {
                if (!runOnce(text, clause)) {
                    house.copyFrom(ahead);
                    trail.copyFrom(trailAhead);
                    stoppedClause = clause;
                    return refuse(CANNOT_BE);
                }
            }
        }
        return accept(done);
    }

    public int fault() {
        return reader.faultPlace;
    }

    public int stopped() {
        return stoppedClause;
    }

    public int force(int law) {
        if (law != NONE && !house.hasLaw(law)) {
            return refuse(NOT_THERE);
        }
        int before = house.inForce;
        house.inForce = law;
        return accept(before);
    }

    public int read(int letter, int child) {
        return settle(act(READ, letter, child));
    }

    public int answer(int letter, int child) {
        return settle(act(ANSWER, letter, child));
    }

    public int lose(int trait, int child) {
        return settle(act(LOSE, trait, child));
    }

    public int pass() {
        return settle(act(PASS, NONE, NONE));
    }

    public int undo() {
        int kind = trail.takeBack(house);
        return kind == NONE ? refuse(CANNOT_BE) : accept(kind);
    }

    public int lesson(int child, int letter, int i) {
        if (!house.hasChild(child) || !house.hasLetter(letter)) {
            return NONE;
        }
        int size = paper.findLesson(child, letter);
        if (size == NONE || i == NONE) {
            return size;
        }
        return i >= 0 && i < size ? paper.lessonRow[i] : NONE;
    }

    public int told(int trait, int known) {
        if (trait < 0 || trait >= TRAITS || known < 0 || known > 1) {
            return refuse(NO_NUMBER);
        }
        if (house.tellings >= TOLD_ROOM) {
            return refuse(NO_ROOM);
        }
        return accept(house.addTelling(trait, known));
    }

    public int forget() {
        int before = house.tellings;
        house.tellings = 0;
        return before;
    }

    public int heard(int child, int i) {
        if (!house.hasChild(child)) {
            return NONE;
        }
        int size = paper.findHeard(child);
        if (i == NONE) {
            return size;
        }
        return i >= 0 && i < size ? paper.heardSets[i] : NONE;
    }

    public int ask(int child, int what) {
        if (!house.hasChild(child) || what < 0 || what > 1) {
            return NONE;
        }
        int size = paper.findHeard(child);
        if (size == 0) {
            return NONE;
        }
        int best = 0;
        int bestLeft = paper.mostLeft(0, size);
        for (int trait = 1; trait < TRAITS; trait++) {
            int left = paper.mostLeft(trait, size);
            if (left < bestLeft) {
                best = trait;
                bestLeft = left;
            }
        }
        return what == 0 ? best : bestLeft;
    }

    public int matched(int what) {
        if (what < 0 || what > house.children) {
            return NONE;
        }
        int worth = paper.match();
        return what == 0 ? worth : paper.matchRow[what - 1];
    }

    public int together(int letter, int what) {
        if (!house.hasLetter(letter) || what < 0 || what > 1) {
            return NONE;
        }
        int who = house.fewestWhoKnow(house.need[letter]);
        if (who == NONE || what == 1) {
            return who;
        }
        return Integer.bitCount(who);
    }

    public int clashes(int house) {
        if (house < 1 || house > HIGHEST_HOUSE) {
            return NONE;
        }
        int twos = 0;
        for (int one = 0; one < this.house.letters; one++) {
            for (int other = one + 1; other < this.house.letters; other++) {
                boolean both = this.house.home[one] == house && this.house.home[other] == house;
                if (both && (this.house.lacks(one, other) || this.house.lacks(other, one))) {
                    twos++;
                }
            }
        }
        return twos;
    }

    public int later(int child, int n) {
        if (!house.hasChild(child) || n < 0 || n > MOST_DAYS_ON) {
            return NONE;
        }
        int knows = house.knows[child];
        for (int day = 0; day < n; day++) {
            knows = asker.whatStays(house, child, knows, house.term[DAY] + day);
        }
        return knows;
    }

    public int likest(int letter, int what) {
        if (!house.hasLetter(letter) || house.children == 0 || what < 0 || what > 1) {
            return NONE;
        }
        int best = 0;
        int fewest = TRAITS + 1;
        for (int child = 0; child < house.children; child++) {
            int differs = Integer.bitCount(house.knows[child] ^ house.content[letter]);
            if (differs < fewest) {
                best = child;
                fewest = differs;
            }
        }
        return what == 0 ? best : fewest;
    }

    public int lost() {
        int known = house.knownAmong(ALL_TRAITS);
        int bits = 0;
        for (int letter = 0; letter < house.letters; letter++) {
            if (!house.isAnswered(letter) && (house.need[letter] & ~known) != 0) {
                bits |= 1 << letter;
            }
        }
        return bits;
    }

    public long few(int k, int n) {
        if (k < 1 || k > 20 || n < 0 || n > 99) {
            return NONE;
        }
        return paper.chanceBelow(k, n);
    }

    public int compare(int law) {
        if (law != NONE && !house.hasLaw(law)) {
            return NONE;
        }
        Text text = law == NONE ? null : house.law[law];
        int worth = 0;
        for (int child = 0; child < house.children; child++) {
            for (int letter = 0; letter < house.letters; letter++) {
                worth += asker.worthOf(house, text, child, letter);
            }
        }
        return worth;
    }

    public int schools(int seed, int n) {
        if (seed < 0 || seed > HIGHEST_SEED || n < 1 || n > MOST_TIMES_OF_SCHOOL) {
            return refuse(NO_NUMBER);
        }
        if (house.letters == 0 || house.children == 0) {
            return refuse(CANNOT_BE);
        }
        return accept(school.hold(house, seed, n));
    }

    public int drawn(int child, int what) {
        if (!school.house.hasChild(child)) {
            return NONE;
        }
        switch (what) {
            case 0:
                return school.house.knows[child];
            case 1:
                return school.house.grown[child];
            default:
                return NONE;
        }
    }

    public int image(int k) {
        if (k < 0 || k >= IMAGE_ROOM) {
            return refuse(NO_NUMBER);
        }
        images[k].copyFrom(house);
        kept[k] = true;
        return accept(0);
    }

    public int back(int k) {
        if (k < 0 || k >= IMAGE_ROOM) {
            return refuse(NO_NUMBER);
        }
        if (!kept[k]) {
            return refuse(NOT_THERE);
        }
        house.copyFrom(images[k]);
        trail.clear();
        return accept(0);
    }

    public int count(int what) {
        if (what >= 7 && what <= 11) {
            return refusals[what - 7];
        }
        if (what >= 13 && what <= 15) {
            return house.term[what - 13];
        }
        switch (what) {
            case 0:
                return house.letters;
            case 1:
                return house.openLetters();
            case 2:
                return house.children;
            case 3:
                return house.tellings;
            case 4:
                return house.laws;
            case 5:
                return trail.size;
            case 6:
                return tape.length;
            case 12:
                return house.inForce;
            default:
                return NONE;
        }
    }

    public int status() {
        return status;
    }

    private int accept(int answer) {
        status = 0;
        return answer;
    }

    private int refuse(int reason) {
        status = reason;
        // there is no -4, so the places of -5 and -6 are one lower
        int place = reason > -4 ? -1 - reason : -2 - reason;
        if (place >= 0 && place < refusals.length) {
            refusals[place]++;
        }
        return reason;
    }

    private int settle(int answer) {
        return answer < 0 ? refuse(answer) : accept(answer);
    }

    private static int highestTerm(int what) {
        if (what == DAY) {
            return LAST_DAY;
        }
        return what == FOUND ? 10 : 9;
    }

    private boolean takeLetter(int place) {
        if (place < 0 || place + 2 >= tape.length || house.letters >= LETTER_ROOM) {
            return false;
        }
        int content = tape.bytes[place];
        int need = tape.bytes[place + 1];
        int home = tape.bytes[place + 2];
        if (!House.canHold(content, need, home)) {
            return false;
        }
        house.addLetter(content, need, home);
        return true;
    }

    /** Whether the ORDERS may go on: a CLAUSE whose "if" is not so is passed over. */
    private boolean runOnce(Text text, int clause) {
        asker.poseOrder(house, done, latest);
        if (text.test[clause] != NONE && asker.reckon(text, text.test[clause]) != Asker.SO) {
            return true;
        }
        int kind = text.kind[clause];
        int first = NONE;
        int second = NONE;
        if (kind != PASS) {
            first = asker.reckon(text, text.first[clause]);
            second = asker.reckon(text, text.second[clause]);
            if (first == Asker.BROKEN || second == Asker.BROKEN) {
                return false;
            }
        }
        int answer = act(kind, first, second);
        if (answer < 0) {
            return false;
        }
        done++;
        if (kind == ANSWER) {
            latest = answer;
        }
        return true;
    }

    private int act(int kind, int first, int second) {
        int objection = house.objection(kind, first, second);
        if (objection != 0) {
            return objection;
        }
        trail.keep(kind, house);
        return house.perform(kind, first, second);
    }

    /** All that an IMAGE keeps. */
    private static final class House {
        private final Asker asker;
        private int letters;
        private final int[] content;
        private final int[] need;
        private final int[] home;
        private int answered;
        private int children;
        private final int[] knows;
        private final int[] bears;
        private final int[] grown;
        private int tellings;
        private final int[] toldTrait;
        private final int[] toldKnown;
        private final int[] term;
        private int laws;
        private final Text[] law;
        private int inForce;

        private House(Asker asker) {
            this.asker = asker;
            content = new int[LETTER_ROOM];
            need = new int[LETTER_ROOM];
            home = new int[LETTER_ROOM];
            knows = new int[CHILD_ROOM];
            bears = new int[CHILD_ROOM];
            grown = new int[CHILD_ROOM];
            toldTrait = new int[TOLD_ROOM];
            toldKnown = new int[TOLD_ROOM];
            term = new int[3];
            term[FOUND] = 2;
            law = new Text[LAW_ROOM];
            inForce = NONE;
        }

        private void copyFrom(House other) {
            letters = other.letters;
            System.arraycopy(other.content, 0, content, 0, LETTER_ROOM);
            System.arraycopy(other.need, 0, need, 0, LETTER_ROOM);
            System.arraycopy(other.home, 0, home, 0, LETTER_ROOM);
            answered = other.answered;
            children = other.children;
            System.arraycopy(other.knows, 0, knows, 0, CHILD_ROOM);
            System.arraycopy(other.bears, 0, bears, 0, CHILD_ROOM);
            System.arraycopy(other.grown, 0, grown, 0, CHILD_ROOM);
            tellings = other.tellings;
            System.arraycopy(other.toldTrait, 0, toldTrait, 0, TOLD_ROOM);
            System.arraycopy(other.toldKnown, 0, toldKnown, 0, TOLD_ROOM);
            System.arraycopy(other.term, 0, term, 0, term.length);
            laws = other.laws;
            // a LAW never changes once it stands, so houses may share it
            for (int i = 0; i < LAW_ROOM; i++) {
                law[i] = other.law[i];
            }
            inForce = other.inForce;
        }

        private boolean hasLetter(int letter) {
            return letter >= 0 && letter < letters;
        }

        private boolean hasChild(int child) {
            return child >= 0 && child < children;
        }

        private boolean hasLaw(int number) {
            return number >= 0 && number < laws;
        }

        private Text lawInForce() {
            return hasLaw(inForce) ? law[inForce] : null;
        }

        private boolean isAnswered(int letter) {
            return (answered >> letter & 1) == 1;
        }

        private int openLetters() {
            return letters - Integer.bitCount(answered);
        }

        private static boolean canHold(int content, int need, int home) {
            return content >= 0 && content <= ALL_TRAITS && need >= 0 && need <= ALL_TRAITS
                    && home >= 0 && home <= HIGHEST_HOUSE;
        }

        private int addLetter(int content, int need, int home) {
            if (letters >= LETTER_ROOM) {
                return NONE;
            }
            this.content[letters] = content;
            this.need[letters] = need;
            this.home[letters] = home;
            letters++;
            return letters - 1;
        }

        private int addChild(int bears) {
            if (children >= CHILD_ROOM) {
                return NONE;
            }
            this.bears[children] = bears;
            knows[children] = 0;
            grown[children] = 0;
            children++;
            return children - 1;
        }

        private int addTelling(int trait, int known) {
            if (tellings < TOLD_ROOM) {
                toldTrait[tellings] = trait;
                toldKnown[tellings] = known;
                tellings++;
            }
            return tellings;
        }

        private int addLaw(Text text) {
            if (laws >= LAW_ROOM) {
                return NONE;
            }
            law[laws] = text;
            laws++;
            return laws - 1;
        }

        /** The traits TOLD to be known, or not to be. */
        private int toldBits(int known) {
            int bits = 0;
            for (int i = 0; i < tellings; i++) {
                if (toldKnown[i] == known) {
                    bits |= 1 << toldTrait[i];
                }
            }
            return bits;
        }

        private int knownAmong(int who) {
            int known = 0;
            for (int child = 0; child < children; child++) {
                if ((who >> child & 1) == 1) {
                    known |= knows[child];
                }
            }
            return known;
        }

        private int fewestWhoKnow(int traits) {
            int best = NONE;
            for (int who = 0; who < 1 << children; who++) {
                boolean fewer = best == NONE || Integer.bitCount(who) < Integer.bitCount(best);
                if (fewer && (traits & ~knownAmong(who)) == 0) {
                    best = who;
                }
            }
            return best;
        }

        private boolean lacks(int letter, int other) {
            return (need[letter] & content[other] & ~content[letter]) != 0;
        }

        /** What a deed is REFUSED by; 0 if it can be. */
        private int objection(int kind, int first, int second) {
            if (kind == PASS) {
                return term[DAY] < LAST_DAY ? 0 : CANNOT_BE;
            }
            if (kind == LOSE) {
                if (first < 0 || first >= TRAITS) {
                    return NO_NUMBER;
                }
                if (!hasChild(second)) {
                    return NOT_THERE;
                }
                return (knows[second] >> first & 1) == 1 ? 0 : CANNOT_BE;
            }
            if (!hasLetter(first) || !hasChild(second)) {
                return NOT_THERE;
            }
            if (kind == READ) {
                return 0;
            }
            boolean open = home[first] != 0 && !isAnswered(first);
            return open && !asker.holdsNow(this, BARS, second, first, NONE) ? 0 : CANNOT_BE;
        }

        /** Does what objection() has nothing against; the answer is that of the call. */
        private int perform(int kind, int first, int second) {
            switch (kind) {
                case READ:
                    int before = knows[second];
                    knows[second] = asker.takeUp(this, second, first, before);
                    grown[second] = Math.min(HIGHEST_GROWN, grown[second] + 1);
                    return Integer.bitCount(knows[second]) - Integer.bitCount(before);
                case ANSWER:
                    answered |= 1 << first;
                    return asker.worthOf(this, lawInForce(), second, first);
                case LOSE:
                    knows[second] &= ~(1 << first);
                    return Integer.bitCount(knows[second]);
                default:
                    for (int child = 0; child < children; child++) {
                        knows[child] = asker.whatStays(this, child, knows[child], term[DAY]);
                    }
                    term[DAY]++;
                    return term[DAY];
            }
        }
    }

    /** What can be undone: the whole of what deeds change, as it was ahead of each. */
    private static final class Trail {
        private static final int WIDTH = 3 + 2 * CHILD_ROOM;
        private final int[] rows;
        private int size;

        private Trail() {
            rows = new int[TRAIL_ROOM * WIDTH];
        }

        private void clear() {
            size = 0;
        }

        private void copyFrom(Trail other) {
            size = other.size;
            System.arraycopy(other.rows, 0, rows, 0, rows.length);
        }

        private void keep(int kind, House house) {
            if (size >= TRAIL_ROOM) {
                System.arraycopy(rows, WIDTH, rows, 0, rows.length - WIDTH);
                size = TRAIL_ROOM - 1;
            }
            int place = size * WIDTH;
            rows[place] = kind;
            rows[place + 1] = house.answered;
            rows[place + 2] = house.term[DAY];
            System.arraycopy(house.knows, 0, rows, place + 3, CHILD_ROOM);
            System.arraycopy(house.grown, 0, rows, place + 3 + CHILD_ROOM, CHILD_ROOM);
            size++;
        }

        /** The kind of the deed that was undone; NONE if there was none. */
        private int takeBack(House house) {
            if (size <= 0) {
                return NONE;
            }
            size--;
            int place = size * WIDTH;
            house.answered = rows[place + 1];
            house.term[DAY] = rows[place + 2];
            System.arraycopy(rows, place + 3, house.knows, 0, CHILD_ROOM);
            System.arraycopy(rows, place + 3 + CHILD_ROOM, house.grown, 0, CHILD_ROOM);
            return rows[place];
        }
    }

    /** The bytes, each without sign. */
    private static final class Tape {
        private final int[] bytes;
        private int length;

        private Tape() {
            bytes = new int[TAPE_ROOM];
        }

        private boolean hasRoom(int more) {
            return length + more <= TAPE_ROOM;
        }

        private void append(int number) {
            for (int shift = 24; shift >= 0 && length < TAPE_ROOM; shift -= 8) {
                bytes[length] = number >> shift & 255;
                length++;
            }
        }
    }

    /**
     * A TEXT that was read: its CLAUSES, and all its SUMS and TESTS as one row of steps for
     * Asker.reckon(), each told by its first step.
     */
    private static final class Text {
        private int clauses;
        private final int[] kind;
        private final int[] first;
        private final int[] second;
        private final int[] times;
        private final int[] test;
        private int size;
        private final int[] steps;
        private final int[] values;

        private Text(int clauseRoom, int stepRoom) {
            kind = new int[clauseRoom];
            first = new int[clauseRoom];
            second = new int[clauseRoom];
            times = new int[clauseRoom];
            test = new int[clauseRoom];
            steps = new int[stepRoom];
            values = new int[stepRoom];
        }

        private void clear() {
            clauses = 0;
            size = 0;
        }

        /** Makes room for a CLAUSE; its place, or NONE. */
        private int open(int clauseKind) {
            if (clauses >= kind.length) {
                return NONE;
            }
            kind[clauses] = clauseKind;
            first[clauses] = NONE;
            second[clauses] = NONE;
            times[clauses] = 1;
            test[clauses] = NONE;
            clauses++;
            return clauses - 1;
        }

        private void emit(int step, int value) {
            if (size < steps.length) {
                steps[size] = step;
                values[size] = value;
                size++;
            }
        }

        private void aim(int step) {
            if (step >= 0 && step < size) {
                values[step] = size;
            }
        }

        /** A copy without the room that the reader needs. */
        private Text compact() {
            Text copy = new Text(clauses, size);
            copy.clauses = clauses;
            copy.size = size;
            System.arraycopy(kind, 0, copy.kind, 0, clauses);
            System.arraycopy(first, 0, copy.first, 0, clauses);
            System.arraycopy(second, 0, copy.second, 0, clauses);
            System.arraycopy(times, 0, copy.times, 0, clauses);
            System.arraycopy(test, 0, copy.test, 0, clauses);
            System.arraycopy(steps, 0, copy.steps, 0, size);
            System.arraycopy(values, 0, copy.values, 0, size);
            return copy;
        }
    }

    /** The TOKEN at which the reader stands. */
    private static final class Token {
        private static final int END = 0;
        private static final int WORD = 1;
        private static final int NUMBER = 2;
        private static final int SIGN = 3;

        private final Tape tape;
        private int kind;
        private int start;
        private int behind;
        private int value;

        private Token(Tape tape) {
            this.tape = tape;
        }

        private void begin() {
            behind = 0;
            advance();
        }

        private void advance() {
            int place = behind;
            while (place < tape.length && tape.bytes[place] == ' ') {
                place++;
            }
            start = place;
            kind = END;
            value = 0;
            if (place < tape.length) {
                kind = kindOf(tape.bytes[place]);
                value = kind == SIGN ? tape.bytes[place] : 0;
                place++;
            }
            if (kind == NUMBER) {
                value = tape.bytes[start] - '0';
            }
            boolean isRow = kind == WORD || kind == NUMBER;
            while (isRow && place < tape.length && kindOf(tape.bytes[place]) == kind) {
                if (kind == NUMBER) {
                    // too high is too high: it stops growing ahead of wrapping around
                    value = Math.min(HIGHEST_NUMBER + 1, value * 10 + tape.bytes[place] - '0');
                }
                place++;
            }
            behind = place;
        }

        private static int kindOf(int sign) {
            if (sign >= 'a' && sign <= 'z') {
                return WORD;
            }
            return sign >= '0' && sign <= '9' ? NUMBER : SIGN;
        }

        private boolean isSign(int sign) {
            return kind == SIGN && value == sign;
        }

        private boolean isNumber(int lowest, int highest) {
            return kind == NUMBER && value >= lowest && value <= highest;
        }

        /** Which of these words, with a blank between them, it is; NONE if none. */
        private int wordAmong(String words) {
            if (kind != WORD) {
                return NONE;
            }
            int index = 0;
            int from = start;
            boolean same = true;
            for (int i = 0; i < words.length(); i++) {
                if (words.charAt(i) == ' ') {
                    if (same && from == behind) {
                        return index;
                    }
                    index++;
                    from = start;
                    same = true;
                } else {
                    same = same && from < behind && tape.bytes[from] == words.charAt(i);
                    from++;
                }
            }
            return same && from == behind ? index : NONE;
        }
    }

    /** Reads both languages; every method answers whether it could go on. */
    private static final class Reader {
        private static final int ANY = 0;
        private static final int EACH = 1;
        private static final int PLAIN = 2;
        private static final int SUM = 3;
        private static final int TERM = 4;
        private static final int PART = 5;

        private final Token token;
        private final Text text;
        private boolean orders;
        private int parts;
        private int faultPlace;

        private Reader(Tape tape) {
            token = new Token(tape);
            // every TOKEN makes one step at most, with the STOP of a SUM or TEST for the word ahead of it
            text = new Text(CLAUSE_ROOM, TAPE_ROOM);
            faultPlace = NONE;
        }

        private boolean take(boolean inOrders) {
            orders = inOrders;
            parts = 0;
            faultPlace = NONE;
            text.clear();
            token.begin();
            for (int i = 0; i < CLAUSE_ROOM; i++) {
                if (!takeClause()) {
                    return false;
                }
                if (token.kind == Token.END) {
                    return true;
                }
                if (!takeSign(';')) {
                    return false;
                }
            }
            return stop();
        }

        private boolean stop() {
            faultPlace = token.start;
            return false;
        }

        private boolean takeSign(int sign) {
            if (!token.isSign(sign)) {
                return stop();
            }
            token.advance();
            return true;
        }

        private boolean takeClause() {
            int kind = token.wordAmong(orders ? ORDER_KINDS : LAW_KINDS);
            if (kind == NONE) {
                return stop();
            }
            int clause = text.open(kind);
            if (clause == NONE) {
                return stop();
            }
            token.advance();
            if (orders ? kind != PASS : kind == WORTH) {
                text.first[clause] = text.size;
                if (!takeLevel(SUM, 0)) {
                    return false;
                }
                text.emit(Asker.STOP, 0);
            }
            if (orders && !takeRestOfOrder(kind, clause)) {
                return false;
            }
            if (token.wordAmong("if") != 0) {
                return true;
            }
            token.advance();
            text.test[clause] = text.size;
            if (!takeLevel(ANY, 0)) {
                return false;
            }
            text.emit(Asker.STOP, 0);
            return true;
        }

        private boolean takeRestOfOrder(int kind, int clause) {
            if (kind != PASS) {
                if (token.wordAmong(ORDER_LINKS) != kind) {
                    return stop();
                }
                token.advance();
                text.second[clause] = text.size;
                if (!takeLevel(SUM, 0)) {
                    return false;
                }
                text.emit(Asker.STOP, 0);
            }
            if (token.wordAmong("times") != 0) {
                return true;
            }
            token.advance();
            if (!token.isNumber(1, HIGHEST_TIMES)) {
                return stop();
            }
            text.times[clause] = token.value;
            token.advance();
            return true;
        }

        /** All binary levels alike: depth counts the brackets that stand open. */
        private boolean takeLevel(int level, int depth) {
            if (level == PLAIN) {
                return takePlain(depth);
            }
            if (level == PART) {
                return takePart(depth);
            }
            if (!takeLevel(level + 1, depth)) {
                return false;
            }
            for (int i = 0; i < TAPE_ROOM; i++) {
                int step = stepOf(level);
                if (step == NONE) {
                    return true;
                }
                token.advance();
                int place = text.size;
                if (level < PLAIN) {
                    text.emit(step, 0);
                }
                if (!takeLevel(level + 1, depth)) {
                    return false;
                }
                if (level < PLAIN) {
                    text.aim(place);
                } else {
                    text.emit(step, 0);
                }
            }
            return stop();
        }

        private int stepOf(int level) {
            if (level == ANY) {
                return token.wordAmong("or") == 0 ? Asker.OR : NONE;
            }
            if (level == EACH) {
                return token.wordAmong("and") == 0 ? Asker.AND : NONE;
            }
            if (token.kind != Token.SIGN) {
                return NONE;
            }
            if (level == SUM) {
                return pick(token.value, '+', '-', NONE, Asker.PLUS);
            }
            return pick(token.value, '*', '/', '%', Asker.TIMES);
        }

        /** The step of a sign: those of one level stand behind one another. */
        private static int pick(int sign, int first, int second, int third, int step) {
            if (sign == first) {
                return step;
            }
            if (sign == second) {
                return step + 1;
            }
            return sign == third ? step + 2 : NONE;
        }

        private boolean takePlain(int depth) {
            boolean turned = false;
            for (int i = 0; i < TAPE_ROOM && token.wordAmong("not") == 0; i++) {
                turned = !turned;
                token.advance();
            }
            boolean good = token.isSign('(') ? takeBracket(ANY, ')', depth) : takeComparison(depth);
            if (turned) {
                text.emit(Asker.NOT, 0);
            }
            return good;
        }

        private boolean takeBracket(int level, int closing, int depth) {
            if (depth >= BRACKET_ROOM) {
                return stop();
            }
            token.advance();
            return takeLevel(level, depth + 1) && takeSign(closing);
        }

        private boolean takeComparison(int depth) {
            if (!takeLevel(SUM, depth)) {
                return false;
            }
            int step = token.kind == Token.SIGN ? pick(token.value, '<', '>', '=', Asker.LESS) : NONE;
            if (step == NONE) {
                return stop();
            }
            token.advance();
            if (!takeLevel(SUM, depth)) {
                return false;
            }
            text.emit(step, 0);
            return true;
        }

        private boolean takePart(int depth) {
            if (token.isSign('[')) {
                return takeBracket(SUM, ']', depth);
            }
            if (parts >= PART_ROOM) {
                return stop();
            }
            parts++;
            if (token.isNumber(0, HIGHEST_NUMBER)) {
                text.emit(Asker.NUMBER, token.value);
                token.advance();
                return true;
            }
            int word = token.wordAmong(orders ? ORDER_WORDS : LAW_WORDS);
            if (word == NONE) {
                return stop();
            }
            token.advance();
            if (!orders || word < KNOWS_OF) {
                text.emit(Asker.WORD, word);
                return true;
            }
            if (!token.isNumber(0, CHILD_ROOM - 1)) {
                return stop();
            }
            text.emit(Asker.WORD, (word == KNOWS_OF ? KNOWS_OF : GROWN_OF) + token.value);
            token.advance();
            return true;
        }
    }

    /** Asks LAWS and ORDERS: what the words mean is laid out first, then the steps are gone through. */
    private static final class Asker {
        private static final int STOP = 0;
        private static final int NUMBER = 1;
        private static final int WORD = 2;
        private static final int NOT = 3;
        private static final int OR = 4;
        private static final int AND = 5;
        private static final int PLUS = 6;
        private static final int MINUS = 7;
        private static final int TIMES = 8;
        private static final int DIVIDED = 9;
        private static final int LEFT_OVER = 10;
        private static final int LESS = 11;
        private static final int MORE = 12;
        private static final int SAME = 13;

        private static final int SO = 1;
        private static final int LIMIT = 1000000000;
        private static final int BROKEN = LIMIT + 1;

        private final int[] words;
        private final int[] stack;

        private Asker() {
            words = new int[GROWN_OF + CHILD_ROOM];
            stack = new int[PART_ROOM + 2];
        }

        /** The words of LAWS, in the row of LAW_WORDS; knows and day as they are asked with. */
        private void poseLaw(House house, int child, int letter, int trait, int knows, int day) {
            words[0] = child;
            words[1] = letter;
            words[2] = trait;
            words[3] = Integer.bitCount(knows);
            words[4] = house.bears[child];
            words[5] = house.grown[child];
            words[6] = letter == NONE ? NONE : house.home[letter];
            words[7] = letter == NONE ? NONE : Integer.bitCount(house.need[letter] & knows);
            words[8] = day;
            words[9] = house.term[MOOD];
        }

        /** The words of ORDERS, in the row of ORDER_WORDS, the last two once for each CHILD. */
        private void poseOrder(House house, int done, int latest) {
            words[0] = house.term[DAY];
            words[1] = done;
            words[2] = latest;
            words[3] = house.openLetters();
            for (int child = 0; child < CHILD_ROOM; child++) {
                boolean there = house.hasChild(child);
                words[KNOWS_OF + child] = there ? Integer.bitCount(house.knows[child]) : NONE;
                words[GROWN_OF + child] = there ? house.grown[child] : NONE;
            }
        }

        /** Of a SUM what it is, of a TEST 1 or 0, of both BROKEN. */
        private int reckon(Text text, int from) {
            int top = 0;
            for (int i = Math.max(0, from); i < text.size; i++) {
                int step = text.steps[i];
                int value = text.values[i];
                if (step == STOP) {
                    return top == 1 ? stack[0] : BROKEN;
                }
                if (step == NUMBER || step == WORD) {
                    if (top >= stack.length) {
                        return BROKEN;
                    }
                    stack[top] = step == NUMBER ? value : wordAt(value);
                    top++;
                } else if (top < (step <= AND ? 1 : 2)) {
                    return BROKEN;
                } else if (step == NOT) {
                    stack[top - 1] = 1 - stack[top - 1];
                } else if (step == OR || step == AND) {
                    // what stands behind is leapt over, if it can't matter any more
                    if ((stack[top - 1] == SO) == (step == OR)) {
                        i = Math.max(i, value - 1);
                    } else {
                        top--;
                    }
                } else {
                    long joined = join(step, stack[top - 2], stack[top - 1]);
                    if (joined > LIMIT || joined < -LIMIT) {
                        return BROKEN;
                    }
                    top--;
                    stack[top - 1] = (int) joined;
                }
            }
            return BROKEN;
        }

        private int wordAt(int place) {
            return place >= 0 && place < words.length ? words[place] : NONE;
        }

        private static long join(int step, int left, int right) {
            switch (step) {
                case PLUS:
                    return (long) left + right;
                case MINUS:
                    return (long) left - right;
                case TIMES:
                    return (long) left * right;
                case DIVIDED:
                    return right == 0 ? BROKEN : left / right;
                case LEFT_OVER:
                    return right == 0 ? BROKEN : left % right;
                case LESS:
                    return left < right ? 1 : 0;
                case MORE:
                    return left > right ? 1 : 0;
                case SAME:
                    return left == right ? 1 : 0;
                default:
                    return BROKEN;
            }
        }

        /** Whether a CLAUSE of this kind HOLDS in the LAW in FORCE, asked with this much KNOWN on this DAY. */
        private boolean holds(House house, int kind, int child, int letter, int trait, int knows, int day) {
            Text law = house.lawInForce();
            if (law == null) {
                return false;
            }
            poseLaw(house, child, letter, trait, knows, day);
            for (int i = 0; i < law.clauses; i++) {
                if (law.kind[i] == kind && (law.test[i] == NONE || reckon(law, law.test[i]) == SO)) {
                    return true;
                }
            }
            return false;
        }

        private boolean holdsNow(House house, int kind, int child, int letter, int trait) {
            return holds(house, kind, child, letter, trait, house.knows[child], house.term[DAY]);
        }

        private int worthOf(House house, Text law, int child, int letter) {
            poseLaw(house, child, letter, NONE, house.knows[child], house.term[DAY]);
            if (law != null) {
                for (int i = law.clauses - 1; i >= 0; i--) {
                    if (law.kind[i] == WORTH && (law.test[i] == NONE || reckon(law, law.test[i]) == SO)) {
                        int worth = reckon(law, law.first[i]);
                        if (worth != BROKEN) {
                            return Math.max(0, Math.min(HIGHEST_WORTH, worth));
                        }
                    }
                }
            }
            return Integer.bitCount(house.need[letter] & house.knows[child]);
        }

        /** What is KNOWN behind the LETTER by a CHILD who knew this much. */
        private int takeUp(House house, int child, int letter, int knows) {
            int known = knows;
            for (int trait = 0; trait < TRAITS; trait++) {
                boolean isNew = (house.content[letter] & ~known & 1 << trait) != 0;
                boolean canBe = isNew && Integer.bitCount(known) < house.bears[child];
                if (canBe && !holds(house, SHUNS, child, letter, trait, known, house.term[DAY])) {
                    known |= 1 << trait;
                }
            }
            return known;
        }

        /** What a DAY leaves to a CHILD who knew this much. */
        private int whatStays(House house, int child, int knows, int day) {
            int known = knows;
            for (int trait = 0; trait < TRAITS; trait++) {
                boolean isKnown = (knows >> trait & 1) == 1;
                if (isKnown && holds(house, FADES, child, NONE, trait, knows, day)) {
                    known &= ~(1 << trait);
                }
            }
            return known;
        }
    }

    /** What is reckoned on paper, with rows that are used again by every call. */
    private static final class Paper {
        private final House house;
        private final Asker asker;
        private final int[] lessonRow;
        private final int[] waiting;
        private final int[] reached;
        private final int[] readLast;
        private final int[] knewAhead;
        private final int[] heardSets;
        private final int[] known;
        private final int[] gain;
        private final int[] best;
        private final int[] matchRow;
        private final long[] chance;

        private Paper(House house, Asker asker) {
            this.house = house;
            this.asker = asker;
            lessonRow = new int[TRAITS];
            waiting = new int[SETS];
            reached = new int[SETS];
            readLast = new int[SETS];
            knewAhead = new int[SETS];
            heardSets = new int[SETS];
            known = new int[SETS];
            gain = new int[CHILD_ROOM * LETTER_ROOM];
            best = new int[(CHILD_ROOM + 1) * SETS];
            matchRow = new int[CHILD_ROOM];
            chance = new long[20];
        }

        /**
         * How many LETTERS; NONE if it can't be. What waits stands in the order of its rows, so what is
         * reached first is reached by the first row.
         */
        private int findLesson(int child, int letter) {
            int need = house.need[letter];
            Arrays.fill(reached, NONE);
            int waits = 1;
            waiting[0] = house.knows[child];
            reached[waiting[0]] = 0;
            for (int i = 0; i < waits; i++) {
                int knows = waiting[i];
                if ((need & ~knows) == 0) {
                    return layOutLesson(knows);
                }
                for (int next = 0; next < house.letters; next++) {
                    int then = asker.takeUp(house, child, next, knows);
                    if (reached[then] == NONE && waits < SETS) {
                        reached[then] = reached[knows] + 1;
                        readLast[then] = next;
                        knewAhead[then] = knows;
                        waiting[waits] = then;
                        waits++;
                    }
                }
            }
            return NONE;
        }

        private int layOutLesson(int knows) {
            int size = Math.min(reached[knows], TRAITS);
            int then = knows;
            for (int i = size - 1; i >= 0; i--) {
                lessonRow[i] = readLast[then];
                then = knewAhead[then];
            }
            return size;
        }

        /** How many sets of LETTERS; what is known behind a set rests on the set without its highest. */
        private int findHeard(int child) {
            int isKnown = house.toldBits(1);
            int isNot = house.toldBits(0);
            int size = 0;
            int highest = 0;
            known[0] = 0;
            for (int set = 0; set < 1 << house.letters; set++) {
                if (set > 0) {
                    highest = set >> (highest + 1) == 0 ? highest : highest + 1;
                    known[set] = asker.takeUp(house, child, highest, known[set ^ 1 << highest]);
                }
                if ((isKnown & ~known[set]) == 0 && (isNot & known[set]) == 0) {
                    heardSets[size] = set;
                    size++;
                }
            }
            return size;
        }

        /** How many of the sets that findHeard() found are left at most by this TRAIT. */
        private int mostLeft(int trait, int size) {
            int with = 0;
            for (int i = 0; i < size; i++) {
                with += known[heardSets[i]] >> trait & 1;
            }
            return Math.max(with, size - with);
        }

        /** The most WORTH together, with the first row in matchRow. */
        private int match() {
            weigh();
            int children = house.children;
            for (int taken = 0; taken < 1 << house.letters; taken++) {
                best[children * SETS + taken] = 0;
            }
            for (int child = children - 1; child >= 0; child--) {
                for (int taken = 0; taken < 1 << house.letters; taken++) {
                    // those ahead of a CHILD can't have taken more LETTERS than they are
                    if (Integer.bitCount(taken) <= child) {
                        best[child * SETS + taken] = mostFrom(child, taken);
                    }
                }
            }
            int taken = 0;
            for (int child = 0; child < children; child++) {
                matchRow[child] = firstOfMost(child, taken);
                taken |= matchRow[child] == NO_LETTER ? 0 : 1 << matchRow[child];
            }
            return best[0];
        }

        /** gain: what each CHILD's answer to each LETTER is WORTH; NONE if it can't be. */
        private void weigh() {
            Text law = house.lawInForce();
            for (int child = 0; child < house.children; child++) {
                for (int letter = 0; letter < house.letters; letter++) {
                    boolean can = house.objection(ANSWER, letter, child) == 0;
                    gain[child * LETTER_ROOM + letter] = can ? asker.worthOf(house, law, child, letter) : NONE;
                }
            }
        }

        private int mostFrom(int child, int taken) {
            int behind = (child + 1) * SETS;
            int most = best[behind + taken];
            for (int letter = 0; letter < house.letters; letter++) {
                int worth = gain[child * LETTER_ROOM + letter];
                if (worth != NONE && (taken >> letter & 1) == 0) {
                    most = Math.max(most, worth + best[behind + (taken | 1 << letter)]);
                }
            }
            return most;
        }

        private int firstOfMost(int child, int taken) {
            int behind = (child + 1) * SETS;
            for (int letter = 0; letter < house.letters; letter++) {
                int worth = gain[child * LETTER_ROOM + letter];
                boolean can = worth != NONE && (taken >> letter & 1) == 0;
                if (can && worth + best[behind + (taken | 1 << letter)] == best[child * SETS + taken]) {
                    return letter;
                }
            }
            return NO_LETTER;
        }

        /** k at most 20: what is found more often than that can't come back below. */
        private long chanceBelow(int k, int n) {
            int below = Math.min(k, chance.length);
            int found = house.term[FOUND];
            Arrays.fill(chance, 0L);
            chance[0] = WHOLE_CHANCE;
            for (int letter = 0; letter < n; letter++) {
                for (int many = below - 1; many >= 0; many--) {
                    long one = many > 0 ? chance[many - 1] * found / 10 : 0;
                    chance[many] = chance[many] * (10 - found) / 10 + one;
                }
            }
            long all = 0;
            for (int many = 0; many < below; many++) {
                all += chance[many];
            }
            return all;
        }
    }

    /** The latest SCHOOLS: a house of their own, without children ahead of any. */
    private static final class School {
        private final House house;
        private long seed;

        private School(Asker asker) {
            house = new House(asker);
        }

        private int hold(House from, int seedOfAll, int n) {
            house.copyFrom(from);
            seed = seedOfAll;
            int answers = 0;
            for (int time = 0; time < n && house.term[DAY] < LAST_DAY; time++) {
                int letter = draw(house.letters);
                int child = draw(house.children);
                int kind = draw(3);
                boolean can = kind <= ANSWER && house.objection(kind, letter, child) == 0;
                if (can) {
                    house.perform(kind, letter, child);
                    answers += kind == ANSWER ? 1 : 0;
                }
                house.perform(PASS, NONE, NONE);
            }
            return answers;
        }

        private int draw(int of) {
            seed = (seed * 1103 + 12345) % 1000003;
            return of > 0 ? (int) (seed % of) : 0;
        }
    }
}
