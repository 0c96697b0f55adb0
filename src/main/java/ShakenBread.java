import java.util.Arrays;

/** Towns under siege, told as texts, and where their bread goes by handshakes. */
public final class ShakenBread {

    /** There is none. */
    public static final int NONE = -1;

    private static final int NO_SUCH = -2;
    /** For answers that may be NONE, or -2, by themselves. */
    private static final int NO_NUMBER = -1000;

    private static final int TAPE_BYTES = 600;
    private static final int FEED_BYTES = 20;
    private static final int SORTS = 2;
    private static final int TOWN = 0;
    private static final int BOOK = 1;
    private static final int TEXTS = 2;
    private static final int IMAGES = 3;

    private static final int MOST_PEOPLE = 8;
    private static final int MOST_HOURS = 24;
    private static final int MOST_STEPS = 12;
    private static final int MOST_QUARRELS = 6;
    private static final int MOST_NOTES = 8;
    private static final int MOST_LOAF = 30;
    private static final int MOST_WALK = 4;
    private static final int MOST_CHANCE = 10;
    private static final int MOST_RUNS = 1024;

    private static final int POLITE = 1;
    private static final int SHY = 2;
    private static final int GLOVED = 3;

    private static final int MORE = 0;
    private static final int FIRST = 1;
    private static final int LESS = 2;
    private static final int LAST = 3;
    private static final int LAWS = 4;

    private static final int STAY = 4;
    private static final int WAYS = 5;
    /** How many walks there are of so many hours, in or out of the town. */
    private static final int[] WALKS = {1, 5, 25, 125, 625};

    private final Told told;
    private final Told[] images;
    private final boolean[] kept;
    private final Reader reader;
    private final Plan plan;
    private final Run base;
    private final Run other;
    private final Trials trials;
    private final Worlds worlds;
    /** Of which the worlds are known; NONE if any text may have changed behind that. */
    private int lookedTown;
    private int lookedBook;

    public ShakenBread() {
        told = new Told();
        images = new Told[] {new Told(), new Told(), new Told()};
        kept = new boolean[IMAGES];
        reader = new Reader();
        plan = new Plan();
        base = new Run();
        other = new Run();
        trials = new Trials(plan, base, other);
        worlds = new Worlds(plan, other);
        forgetWorlds();
    }

    // ---- the tape and the texts ----

    public int feed(int a, int b, int c, int d, int e) {
        if (told.length + FEED_BYTES > TAPE_BYTES) {
            return NONE;
        }
        told.write(a);
        told.write(b);
        told.write(c);
        told.write(d);
        told.write(e);
        return told.length;
    }

    public int end(int n) {
        if (n < 0 || n > told.length) {
            return NONE;
        }
        told.length = n;
        return n;
    }

    public int text(int sort, int at) {
        int number = told.numberFor(sort, at);
        if (number == NONE) {
            told.closeText(0, NONE);
            return NO_SUCH;
        }
        reader.read(sort, told.tape, told.length);
        told.closeText(reader.fault, reader.place);
        if (reader.fault != 0) {
            return NONE;
        }
        forgetWorlds();
        if (sort == TOWN) {
            told.keepTown(number, reader.town);
        } else {
            told.keepBook(number, reader.book);
        }
        return number;
    }

    public int fault(int what) {
        switch (what) {
            case 0: return told.fault;
            case 1: return told.place;
            default: return NONE;
        }
    }

    public int count(int sort) {
        if (sort < 0 || sort >= SORTS) {
            return NO_SUCH;
        }
        return sort == TOWN ? told.townCount : told.bookCount;
    }

    public boolean image(int k) {
        if (k < 0 || k >= IMAGES) {
            return false;
        }
        images[k].copy(told);
        kept[k] = true;
        return true;
    }

    public boolean again(int k) {
        if (k < 0 || k >= IMAGES || !kept[k]) {
            return false;
        }
        told.copy(images[k]);
        forgetWorlds();
        return true;
    }

    // ---- what the texts tell ----

    public int town(int town, int what) {
        Town t = told.townAt(town);
        if (t == null) {
            return NONE;
        }
        switch (what) {
            case 0: return t.columns;
            case 1: return t.rows;
            case 2: return t.law;
            case 3: return t.hours;
            case 4: return t.need;
            case 5: return t.every;
            case 6: return t.people;
            case 7: return t.quarrels;
            default: return quarrelOne(t, what);
        }
    }

    private int quarrelOne(Town t, int what) {
        if (what >= 10 && what < 10 + t.quarrels) {
            return t.quarrelFirst[what - 10];
        }
        if (what >= 20 && what < 20 + t.quarrels) {
            return t.quarrelSecond[what - 20];
        }
        return NONE;
    }

    public int person(int town, int person, int what) {
        Town t = told.townAt(town);
        if (t == null || !t.hasPerson(person)) {
            return NONE;
        }
        switch (what) {
            case 0: return t.manner[person];
            case 1: return t.cell[person];
            case 2: return t.bread[person];
            case 3: return t.extra[person];
            case 4: return t.steps[person];
            default: break;
        }
        if (what < 10 || what >= 10 + t.steps[person]) {
            return NONE;
        }
        return t.errand[person * MOST_STEPS + what - 10];
    }

    public int note(int book, int k, int what) {
        Book b = told.bookAt(book);
        if (b == null) {
            return NO_SUCH;
        }
        if (k == NONE && what == 0) {
            return b.notes;
        }
        if (k < 0 || k >= b.notes) {
            return NO_SUCH;
        }
        switch (what) {
            case 0: return b.who[k];
            case 1: return b.hour[k];
            case 2: return b.bread[k];
            default: return NO_SUCH;
        }
    }

    // ---- the run ----

    private Run runOf(Town t) {
        plan.lay(t);
        base.go(plan, null, 0);
        return base;
    }

    public int at(int town, int hour, int person, int what) {
        Town t = told.townAt(town);
        if (t == null || !t.hasHour(hour) || !t.hasPerson(person)) {
            return NO_NUMBER;
        }
        Run r = runOf(t);
        int place = hour * MOST_PEOPLE + person;
        switch (what) {
            case 0: return t.cellAt(person, hour);
            case 1: return r.bread[place];
            case 2: return r.livesAt(hour, person) ? 1 : 0;
            case 3: return r.met[place];
            case 4: return r.came[place];
            default: return NO_NUMBER;
        }
    }

    public int hour(int town, int hour, int what) {
        Town t = told.townAt(town);
        if (t == null || !t.hasHour(hour)) {
            return NONE;
        }
        Run r = runOf(t);
        switch (what) {
            case 0: return r.shakes[hour];
            case 1: return r.gone[hour];
            case 2: return r.eatenAt(hour);
            case 3: return r.lives[hour];
            case 4: return r.breadAt(hour);
            default: return NONE;
        }
    }

    public int run(int town, int what) {
        Town t = told.townAt(town);
        if (t == null) {
            return NO_SUCH;
        }
        Run r = runOf(t);
        switch (what) {
            case 0: return r.starved();
            case 1: return r.firstStarving();
            case 2: return r.allShakes();
            case 3: return r.allEaten();
            case 4: return r.breadAt(t.hours - 1);
            case 5: return r.richestAtEnd();
            case 6: return r.couples();
            case 7: return r.parts();
            default: return NO_SUCH;
        }
    }

    public int fate(int town, int person, int what) {
        Town t = told.townAt(town);
        if (t == null || !t.hasPerson(person)) {
            return NO_SUCH;
        }
        Run r = runOf(t);
        switch (what) {
            case 0: return r.starvingHour(person);
            case 1: return r.shakesOf(person);
            case 2: return r.eatenBy(person);
            case 3: return r.bread[r.richestHour(person) * MOST_PEOPLE + person];
            case 4: return r.richestHour(person);
            default: return NO_SUCH;
        }
    }

    // ---- what would be better ----

    public int gloves(int town) {
        Town t = told.townAt(town);
        return t == null ? NONE : trials.fewestGloves(t);
    }

    public int order(int town, int what) {
        Town t = told.townAt(town);
        if (t == null || what < 0 || what > 3 || !trials.findOrder(t)) {
            return NONE;
        }
        return trials.found[what];
    }

    public int walk(int town, int person, int hour, int m, int what) {
        Town t = told.townAt(town);
        if (t == null || !t.hasPerson(person) || !t.hasHour(hour)) {
            return NONE;
        }
        if (m < 1 || m > MOST_WALK || hour + m > t.hours) {
            return NONE;
        }
        if (what != 0 && (what < 10 || what >= 10 + m)) {
            return NONE;
        }
        trials.findWalk(t, person, hour, m);
        return what == 0 ? trials.found[0] : wayOf(trials.found[1], m, what - 10);
    }

    /** A walk's number has its ways as digits, the first one highest, so that it counts walks by rows. */
    private static int wayOf(int number, int m, int i) {
        int behind = m - 1 - i;
        if (behind < 0 || behind > MOST_WALK) {
            return NONE;
        }
        return number / WALKS[behind] % WAYS;
    }

    public int feeds(int town, boolean starved) {
        Town t = told.townAt(town);
        if (t == null) {
            return NONE;
        }
        trials.findLaw(t);
        return starved ? trials.found[1] : trials.found[0];
    }

    public int peace(int town) {
        Town t = told.townAt(town);
        return t == null ? NONE : trials.fewestQuarrels(t);
    }

    public int loaf(int town, int person, int hour, int n, int what) {
        Town t = told.townAt(town);
        if (t == null || !t.hasPerson(person) || !t.hasHour(hour) || n < 1 || n > MOST_LOAF) {
            return NO_NUMBER;
        }
        boolean ofOne = what >= 10 && what < 10 + t.people;
        if (what != 0 && !ofOne) {
            return NO_NUMBER;
        }
        runOf(t);
        plan.letIn(person, hour, n);
        other.go(plan, null, 0);
        return ofOne ? base.firstUnlike(other, what - 10) : base.starved() - other.starved();
    }

    public int wedding(int town, int hour, int cell, int what) {
        Town t = told.townAt(town);
        if (t == null || !t.hasHour(hour) || !t.hasCell(cell)) {
            return NONE;
        }
        plan.lay(t);
        plan.gather(hour, cell);
        other.go(plan, null, 0);
        switch (what) {
            case 0: return other.shakes[hour];
            case 1: return other.richestLiving(hour);
            case 2: return other.starved();
            default: return NONE;
        }
    }

    public int stays(int town, int person, int what) {
        Town t = told.townAt(town);
        if (t == null || !t.hasPerson(person)) {
            return NONE;
        }
        boolean ofOne = what >= 10 && what < 10 + t.people;
        if (what != 0 && !ofOne) {
            return NONE;
        }
        plan.lay(t);
        plan.keepAway(person);
        other.go(plan, null, 0);
        if (!ofOne) {
            return other.starved();
        }
        return Integer.bitCount(other.log.reached(what - 10, t.hours - 1, plan.gloved));
    }

    // ---- what goes by the same hands ----

    public int painted(int town, int person, int hour, int what) {
        Town t = told.townAt(town);
        if (t == null || !t.hasPerson(person) || !t.hasHour(hour) || t.bread[person] < 1) {
            return NO_SUCH;
        }
        if (what != 0 && what != 1) {
            return NO_SUCH;
        }
        runOf(t);
        return what == 0 ? base.mayBeWith(plan, person, hour) : base.bite(plan, person, hour);
    }

    public int fever(int town, int person, int hour, int of) {
        Town t = told.townAt(town);
        if (t == null || !t.hasPerson(person)) {
            return NO_SUCH;
        }
        if (of == NONE) {
            return t.hasHour(hour) ? runOf(t).log.reached(person, hour, plan.gloved) : NO_SUCH;
        }
        if (!t.hasPerson(of) || of == person) {
            return NO_SUCH;
        }
        return runOf(t).log.reachedFirst(person, of, t.hours, plan.gloved);
    }

    public int drawn(int town, int person, int seed, int k) {
        Town t = told.townAt(town);
        if (t == null || !t.hasPerson(person) || k < 0 || k > MOST_CHANCE) {
            return NONE;
        }
        return runOf(t).log.reachedByLot(person, plan.gloved, seed, k);
    }

    public int news(int town, int from, int to) {
        Town t = told.townAt(town);
        if (t == null || !t.hasPerson(from) || !t.hasPerson(to) || from == to) {
            return NONE;
        }
        return runOf(t).log.reachedFirst(from, to, t.hours, 0);
    }

    // ---- all that may have been ----

    private void forgetWorlds() {
        lookedTown = NONE;
        lookedBook = NONE;
    }

    private boolean lookAtWorlds(int town, int book) {
        Town t = told.townAt(town);
        Book b = told.bookAt(book);
        if (t == null || b == null) {
            return false;
        }
        if (town != lookedTown || book != lookedBook) {
            worlds.look(t, b);
            lookedTown = town;
            lookedBook = book;
        }
        return worlds.runs <= MOST_RUNS;
    }

    public int worlds(int town, int book, int what) {
        if (what < 0 || what > 3 || !lookAtWorlds(town, book)) {
            return NONE;
        }
        if (what == 0) {
            return worlds.count;
        }
        if (what == 1) {
            return worlds.runs;
        }
        if (worlds.count == 0) {
            return NONE;
        }
        return what == 2 ? worlds.doomed : worlds.danger;
    }

    public int pocket(int town, int book, int person, int hour, boolean most) {
        Town t = told.townAt(town);
        if (t == null || !t.hasPerson(person) || !t.hasHour(hour) || !lookAtWorlds(town, book)) {
            return NONE;
        }
        return most ? worlds.mostOf(hour, person) : worlds.leastOf(hour, person);
    }

    public int search(int town, int book, int what) {
        if (what < 0 || what > 2 || !lookAtWorlds(town, book) || worlds.count == 0) {
            return NONE;
        }
        Town t = told.townAt(town);
        if (t == null || t.people == 0) {
            return NONE;
        }
        worlds.findSearch(t);
        return worlds.found[what];
    }

    // ---- what would help, and whom ----

    public int aid(int town, int person) {
        Town t = told.townAt(town);
        return t == null || !t.hasPerson(person) ? NONE : trials.leastAid(t, person);
    }

    public int hunger(int town, boolean every) {
        Town t = told.townAt(town);
        if (t == null) {
            return NONE;
        }
        return every ? trials.leastEvery(t) : trials.greatestNeed(t);
    }

    public int swap(int town, int what) {
        Town t = told.townAt(town);
        if (t == null || what < 0 || what > 2 || !trials.findSwap(t)) {
            return NONE;
        }
        return trials.found[what];
    }

    public int wed(int town, boolean starved) {
        Town t = told.townAt(town);
        if (t == null) {
            return NONE;
        }
        trials.findWedding(t);
        return starved ? trials.found[1] : trials.found[0];
    }

    public int tunnel(int town, int hour, int n, boolean saved) {
        Town t = told.townAt(town);
        if (t == null || t.people == 0 || !t.hasHour(hour) || n < 1 || n > MOST_LOAF) {
            return saved ? NO_NUMBER : NONE;
        }
        trials.findTunnel(t, hour, n);
        return saved ? trials.found[1] : trials.found[0];
    }

    public int richest(int town, int law) {
        Town t = told.townAt(town);
        if (t == null || t.people == 0 || law < NONE || law >= LAWS) {
            return NONE;
        }
        return law == NONE ? trials.evenestLaw(t) : trials.richestBy(t, law);
    }

    public int miser(int town, int what) {
        Town t = told.townAt(town);
        if (t == null || what < 0 || what > 3) {
            return NO_SUCH;
        }
        if (what < 2) {
            trials.findMiser(t);
            return trials.found[what];
        }
        trials.findRest(t);
        return trials.found[what - 2];
    }

    // ---- all that is told ----

    /** All that an image keeps. */
    private static final class Told {
        final byte[] tape;
        final Town[] towns;
        final Book[] books;
        int length;
        int fault;
        int place;
        int townCount;
        int bookCount;

        Told() {
            tape = new byte[TAPE_BYTES];
            towns = new Town[] {new Town(), new Town()};
            books = new Book[] {new Book(), new Book()};
            place = NONE;
        }

        void write(int four) {
            for (int shift = 24; shift >= 0; shift -= 8) {
                if (length < TAPE_BYTES) {
                    tape[length] = (byte) (four >> shift);
                    length++;
                }
            }
        }

        void closeText(int newFault, int newPlace) {
            length = 0;
            fault = newFault;
            place = newPlace;
        }

        /** The number that a text taken at a place will have, NONE if it can't be taken there. */
        int numberFor(int sort, int at) {
            if (sort < 0 || sort >= SORTS) {
                return NONE;
            }
            int there = sort == TOWN ? townCount : bookCount;
            if (at == NONE) {
                return there < TEXTS ? there : NONE;
            }
            return at >= 0 && at < there ? at : NONE;
        }

        Town townAt(int n) {
            return n < 0 || n >= townCount || n >= TEXTS ? null : towns[n];
        }

        Book bookAt(int n) {
            return n < 0 || n >= bookCount || n >= TEXTS ? null : books[n];
        }

        void keepTown(int n, Town town) {
            if (n >= 0 && n < TEXTS) {
                towns[n].copy(town);
                townCount = Math.max(townCount, n + 1);
            }
        }

        void keepBook(int n, Book book) {
            if (n >= 0 && n < TEXTS) {
                books[n].copy(book);
                bookCount = Math.max(bookCount, n + 1);
            }
        }

        void copy(Told from) {
            System.arraycopy(from.tape, 0, tape, 0, TAPE_BYTES);
            length = from.length;
            fault = from.fault;
            place = from.place;
            townCount = from.townCount;
            bookCount = from.bookCount;
            for (int i = 0; i < TEXTS; i++) {
                towns[i].copy(from.towns[i]);
                books[i].copy(from.books[i]);
            }
        }
    }

    private static final class Town {
        int columns;
        int rows;
        int law;
        int hours;
        int need;
        int every;
        int people;
        int quarrels;
        final int[] manner = new int[MOST_PEOPLE];
        final int[] cell = new int[MOST_PEOPLE];
        final int[] bread = new int[MOST_PEOPLE];
        final int[] extra = new int[MOST_PEOPLE];
        final int[] steps = new int[MOST_PEOPLE];
        final int[] errand = new int[MOST_PEOPLE * MOST_STEPS];
        final int[] quarrelFirst = new int[MOST_QUARRELS];
        final int[] quarrelSecond = new int[MOST_QUARRELS];

        void reset() {
            columns = 3;
            rows = 3;
            law = MORE;
            hours = 12;
            need = 1;
            every = 6;
            people = 0;
            quarrels = 0;
            // errands and extras may be told ahead of their people, so none may stay from an earlier text
            for (int p = 0; p < MOST_PEOPLE; p++) {
                extra[p] = 0;
                steps[p] = 0;
            }
        }

        void copy(Town from) {
            columns = from.columns;
            rows = from.rows;
            law = from.law;
            hours = from.hours;
            need = from.need;
            every = from.every;
            people = from.people;
            quarrels = from.quarrels;
            System.arraycopy(from.manner, 0, manner, 0, MOST_PEOPLE);
            System.arraycopy(from.cell, 0, cell, 0, MOST_PEOPLE);
            System.arraycopy(from.bread, 0, bread, 0, MOST_PEOPLE);
            System.arraycopy(from.extra, 0, extra, 0, MOST_PEOPLE);
            System.arraycopy(from.steps, 0, steps, 0, MOST_PEOPLE);
            System.arraycopy(from.errand, 0, errand, 0, MOST_PEOPLE * MOST_STEPS);
            System.arraycopy(from.quarrelFirst, 0, quarrelFirst, 0, MOST_QUARRELS);
            System.arraycopy(from.quarrelSecond, 0, quarrelSecond, 0, MOST_QUARRELS);
        }

        boolean hasPerson(int person) {
            return person >= 0 && person < people && person < MOST_PEOPLE;
        }

        boolean hasHour(int hour) {
            return hour >= 0 && hour < hours && hour < MOST_HOURS;
        }

        boolean hasCell(int c) {
            return c >= 0 && c < columns * rows;
        }

        void addPerson(int newManner, int newCell, int newBread) {
            if (people < MOST_PEOPLE) {
                manner[people] = newManner;
                cell[people] = newCell;
                bread[people] = newBread;
                people++;
            }
        }

        void addQuarrel(int one, int another) {
            if (quarrels < MOST_QUARRELS) {
                quarrelFirst[quarrels] = one;
                quarrelSecond[quarrels] = another;
                quarrels++;
            }
        }

        /** The numbers are who goes, then his cells. */
        void setErrand(int[] numbers, int count) {
            int who = numbers[0];
            if (who < 0 || who >= MOST_PEOPLE) {
                return;
            }
            steps[who] = 0;
            for (int i = 1; i < count && i < numbers.length && i <= MOST_STEPS; i++) {
                errand[who * MOST_STEPS + i - 1] = numbers[i];
                steps[who] = i;
            }
        }

        void setExtra(int who, int much) {
            if (who >= 0 && who < MOST_PEOPLE) {
                extra[who] = much;
            }
        }

        int cellAt(int person, int hour) {
            int step = Math.min(hour, steps[person] - 1);
            return step < 0 ? cell[person] : errand[person * MOST_STEPS + step];
        }

        /** The cell beside another one by a way, NONE if it would be out of the town. */
        int cellBeside(int from, int way) {
            if (columns < 1) {
                return NONE;
            }
            switch (way) {
                case 0: return from >= columns ? from - columns : NONE;
                case 1: return from % columns < columns - 1 ? from + 1 : NONE;
                case 2: return from + columns < columns * rows ? from + columns : NONE;
                case 3: return from % columns > 0 ? from - 1 : NONE;
                case STAY: return from;
                default: return NONE;
            }
        }
    }

    private static final class Book {
        int notes;
        final int[] who = new int[MOST_NOTES];
        final int[] hour = new int[MOST_NOTES];
        final int[] bread = new int[MOST_NOTES];

        void addNote(int newWho, int newHour, int newBread) {
            if (notes < MOST_NOTES) {
                who[notes] = newWho;
                hour[notes] = newHour;
                bread[notes] = newBread;
                notes++;
            }
        }

        void copy(Book from) {
            notes = from.notes;
            System.arraycopy(from.who, 0, who, 0, MOST_NOTES);
            System.arraycopy(from.hour, 0, hour, 0, MOST_NOTES);
            System.arraycopy(from.bread, 0, bread, 0, MOST_NOTES);
        }
    }

    // ---- reading ----

    /** Reads a tape as a text, line by line, into its own town or book. */
    private static final class Reader {
        private static final int END = 0;
        private static final int WORD = 1;
        private static final int NUMBER = 2;
        private static final int STOP = 3;
        private static final int NO_TOKEN = 4;

        private static final int SIZE = 0;
        private static final int TIME = 1;
        private static final int EAT = 2;
        private static final int ONE = 3;
        private static final int ERRAND = 4;
        private static final int EXTRA = 5;
        private static final int QUARREL = 6;
        private static final int POCKET = 7;
        private static final int LAW_LINE = 8;

        /** By line: how many numbers it has, at least and at most (an errand: more than the tape can hold). */
        private static final int[] FEWEST = {2, 1, 2, 2, 2, 2, 2, 3};
        private static final int[] MOST = {2, 1, 2, 2, 600, 2, 2, 3};
        /** By line, three each: what its first, its second, any later number may be. */
        private static final int[] LOW =
            {2, 2, 0, 1, 0, 0, 0, 1, 0, 0, 0, 0, 0, 0, 0, 0, 0, 0, 0, 0, 0, 0, 0, 0};
        private static final int[] HIGH =
            {6, 6, 0, 24, 0, 0, 9, 24, 0, 35, 30, 0, 7, 35, 35, 7, 3, 0, 7, 7, 0, 7, 23, 99};

        final Town town = new Town();
        final Book book = new Book();
        int fault;
        int place;
        private final int[] numbers = new int[1 + MOST_STEPS];
        private byte[] tape;
        private int length;
        private int next;
        private int token;
        private int start;
        private int value;
        private int manner;
        private int toldPeople;
        private int toldQuarrels;
        private int toldNotes;
        private int highestPerson;
        private int highestCell;

        void read(int sort, byte[] bytes, int size) {
            begin(bytes, size);
            boolean going = true;
            for (int line = 0; going && line <= TAPE_BYTES; line++) {
                going = readLine(sort);
            }
            boolean missing = highestPerson >= town.people || highestCell >= town.columns * town.rows;
            if (fault == 0 && sort == TOWN && missing) {
                fault = 4;
                place = length;
            }
        }

        private void begin(byte[] bytes, int size) {
            tape = bytes;
            length = Math.min(size, bytes.length);
            next = 0;
            fault = 0;
            place = NONE;
            toldPeople = 0;
            toldQuarrels = 0;
            toldNotes = 0;
            highestPerson = NONE;
            highestCell = NONE;
            town.reset();
            book.notes = 0;
        }

        /** Whether there was a line, and more of them may come. */
        private boolean readLine(int sort) {
            readToken();
            if (token == END) {
                return false;
            }
            int line = token == WORD ? lineOfWord(sort) : NONE;
            if (line == NONE) {
                return breakOff();
            }
            countLine(line);
            return line == LAW_LINE ? readLaw() : readNumbers(line);
        }

        /** A text that doesn't go on has this fault, whatever its numbers were. */
        private boolean breakOff() {
            fault = 1;
            place = start;
            return false;
        }

        /** Tokens are read by place, so the first one blamed is the first by place. */
        private void blame(int kind) {
            if (fault == 0) {
                fault = kind;
                place = start;
            }
        }

        private int lineOfWord(int sort) {
            if (sort == BOOK) {
                return isWord("pocket") ? POCKET : NONE;
            }
            manner = mannerOfWord();
            if (manner != NONE) {
                return ONE;
            }
            if (isWord("size")) {
                return SIZE;
            }
            if (isWord("law")) {
                return LAW_LINE;
            }
            if (isWord("hours")) {
                return TIME;
            }
            if (isWord("eat")) {
                return EAT;
            }
            if (isWord("errand")) {
                return ERRAND;
            }
            if (isWord("extra")) {
                return EXTRA;
            }
            return isWord("quarrel") ? QUARREL : NONE;
        }

        private int mannerOfWord() {
            if (isWord("plain")) {
                return 0;
            }
            if (isWord("polite")) {
                return POLITE;
            }
            if (isWord("shy")) {
                return SHY;
            }
            return isWord("gloved") ? GLOVED : NONE;
        }

        private int lawOfWord() {
            if (isWord("more")) {
                return MORE;
            }
            if (isWord("first")) {
                return FIRST;
            }
            if (isWord("less")) {
                return LESS;
            }
            return isWord("last") ? LAST : NONE;
        }

        private void countLine(int line) {
            if (line == ONE) {
                toldPeople++;
            } else if (line == QUARREL) {
                toldQuarrels++;
            } else if (line == POCKET) {
                toldNotes++;
            }
            if (toldPeople > MOST_PEOPLE || toldQuarrels > MOST_QUARRELS || toldNotes > MOST_NOTES) {
                blame(3);
            }
        }

        private boolean readLaw() {
            readToken();
            int law = token == WORD ? lawOfWord() : NONE;
            if (law == NONE) {
                return breakOff();
            }
            readToken();
            if (token != STOP) {
                return breakOff();
            }
            town.law = law;
            return true;
        }

        private boolean readNumbers(int line) {
            for (int i = 0; i <= MOST[line]; i++) {
                readToken();
                if (token == STOP && i >= FEWEST[line]) {
                    keepLine(line, i);
                    return true;
                }
                if (token != NUMBER || i == MOST[line]) {
                    return breakOff();
                }
                takeNumber(line, i);
            }
            return false;
        }

        private void takeNumber(int line, int i) {
            int slot = line * 3 + Math.min(i, 2);
            boolean same = line == QUARREL && i == 1 && value == numbers[0];
            if (value < LOW[slot] || value > HIGH[slot] || same) {
                blame(2);
            }
            if (i < numbers.length) {
                numbers[i] = value;
            } else {
                blame(3);
            }
            if (line == QUARREL || i == 0 && (line == ERRAND || line == EXTRA)) {
                highestPerson = Math.max(highestPerson, value);
            }
            if (i == 0 && line == ONE || i > 0 && line == ERRAND) {
                highestCell = Math.max(highestCell, value);
            }
        }

        private void keepLine(int line, int count) {
            if (fault != 0) {
                return;
            }
            switch (line) {
                case SIZE:
                    town.columns = numbers[0];
                    town.rows = numbers[1];
                    break;
                case TIME:
                    town.hours = numbers[0];
                    break;
                case EAT:
                    town.need = numbers[0];
                    town.every = numbers[1];
                    break;
                case ONE:
                    town.addPerson(manner, numbers[0], numbers[1]);
                    break;
                case ERRAND:
                    town.setErrand(numbers, count);
                    break;
                case EXTRA:
                    town.setExtra(numbers[0], numbers[1]);
                    break;
                case QUARREL:
                    town.addQuarrel(numbers[0], numbers[1]);
                    break;
                case POCKET:
                    book.addNote(numbers[0], numbers[1], numbers[2]);
                    break;
                default:
                    break;
            }
        }

        private void readToken() {
            while (next < length && (tape[next] == 10 || tape[next] == 32)) {
                next++;
            }
            start = next;
            if (next >= length) {
                token = END;
            } else if (tape[next] == ';') {
                token = STOP;
                next++;
            } else if (isLetter(next)) {
                token = WORD;
                while (next < length && isLetter(next)) {
                    next++;
                }
            } else {
                readDigits();
            }
        }

        private void readDigits() {
            value = 0;
            while (next < length && isDigit(next)) {
                if (next < start + 2) {
                    value = value * 10 + tape[next] - '0';
                }
                next++;
            }
            int digits = next - start;
            token = digits == 1 || digits == 2 ? NUMBER : NO_TOKEN;
        }

        private boolean isLetter(int i) {
            return tape[i] >= 'a' && tape[i] <= 'z';
        }

        private boolean isDigit(int i) {
            return tape[i] >= '0' && tape[i] <= '9';
        }

        private boolean isWord(String word) {
            if (word.length() != next - start) {
                return false;
            }
            for (int i = 0; i < word.length(); i++) {
                if (word.charAt(i) != tape[start + i]) {
                    return false;
                }
            }
            return true;
        }
    }

    // ---- the runs ----

    /** A town made ready for a run, which may then be made unlike. */
    private static final class Plan {
        int people;
        int hours;
        int law;
        int need;
        int every;
        int gloved;
        int loafTo;
        int loafHour;
        int loafSize;
        final int[] start = new int[MOST_PEOPLE];
        final int[] rank = new int[MOST_PEOPLE];
        /** By one: with whom he would shake hands (bits). */
        final int[] open = new int[MOST_PEOPLE];
        /** By hour and one: the cell. */
        final int[] where = new int[MOST_HOURS * MOST_PEOPLE];

        void lay(Town t) {
            people = Math.min(t.people, MOST_PEOPLE);
            hours = Math.min(t.hours, MOST_HOURS);
            law = t.law;
            need = t.need;
            every = t.every;
            gloved = 0;
            loafTo = NONE;
            loafHour = NONE;
            loafSize = 0;
            for (int p = 0; p < people; p++) {
                start[p] = t.bread[p];
                rank[p] = t.manner[p] == POLITE ? 2 : t.manner[p] == SHY ? 0 : 1;
                if (t.manner[p] == GLOVED) {
                    gloved |= 1 << p;
                }
                for (int h = 0; h < hours; h++) {
                    where[h * MOST_PEOPLE + p] = t.cellAt(p, h);
                }
            }
            openHands(t, 0);
        }

        /** The quarrels left out (bits) are as if they had not been told. */
        void openHands(Town t, int leftOut) {
            int all = (1 << people) - 1;
            int shy = 0;
            for (int p = 0; p < people; p++) {
                shy |= t.manner[p] == SHY ? 1 << p : 0;
            }
            for (int p = 0; p < people; p++) {
                open[p] = t.manner[p] == SHY ? all & ~shy : all;
            }
            for (int q = 0; q < t.quarrels; q++) {
                if ((leftOut >> q & 1) == 0) {
                    part(t.quarrelFirst[q], t.quarrelSecond[q]);
                }
            }
        }

        private void part(int a, int b) {
            if (a >= 0 && a < MOST_PEOPLE && b >= 0 && b < MOST_PEOPLE) {
                open[a] &= ~(1 << b);
                open[b] &= ~(1 << a);
            }
        }

        void keepAway(int person) {
            for (int p = 0; p < people; p++) {
                part(person, p);
            }
        }

        void send(int hour, int person, int cell) {
            int i = hour * MOST_PEOPLE + person;
            if (i >= 0 && i < where.length) {
                where[i] = cell;
            }
        }

        void gather(int hour, int cell) {
            for (int p = 0; p < people; p++) {
                send(hour, p, cell);
            }
        }

        void change(int a, int b) {
            for (int h = 0; h < hours; h++) {
                int row = h * MOST_PEOPLE;
                int cell = where[row + a];
                where[row + a] = where[row + b];
                where[row + b] = cell;
            }
        }

        void letIn(int person, int hour, int ounces) {
            loafTo = person;
            loafHour = hour;
            loafSize = ounces;
        }

        /** Who gives an ounce when two shake hands, a below b, with so much bread; NONE if nobody does. */
        int giver(int a, int b, int breadOfA, int breadOfB) {
            int giver;
            if (law == MORE || law == LESS) {
                if (breadOfA == breadOfB) {
                    return NONE;
                }
                giver = breadOfA > breadOfB == (law == MORE) ? a : b;
            } else {
                boolean greets = rank[a] >= rank[b];
                giver = greets == (law == FIRST) ? a : b;
            }
            boolean empty = (giver == a ? breadOfA : breadOfB) < 1;
            return empty || (gloved >> giver & 1) != 0 ? NONE : giver;
        }

        /** Whether another one than this one is to be in the cell in the hour. */
        boolean isOtherThere(int hour, int person, int cell) {
            for (int p = 0; p < people; p++) {
                if (p != person && where[hour * MOST_PEOPLE + p] == cell) {
                    return true;
                }
            }
            return false;
        }
    }

    /** What has been in a run, hour by hour. */
    private static final class Run {
        int people;
        int hours;
        int need;
        int every;
        final Hands log = new Hands();
        /** By hour and one. */
        final int[] bread = new int[MOST_HOURS * MOST_PEOPLE];
        final int[] met = new int[MOST_HOURS * MOST_PEOPLE];
        final int[] came = new int[MOST_HOURS * MOST_PEOPLE];
        /** By hour. */
        final int[] lives = new int[MOST_HOURS];
        final int[] shakes = new int[MOST_HOURS];
        final int[] gone = new int[MOST_HOURS];
        private final int[] now = new int[MOST_PEOPLE];
        private int alive;

        /** From an hour on alone, if it isn't 0: all ahead of it is as in an earlier run, and is not told here. */
        void go(Plan plan, Run earlier, int from) {
            people = plan.people;
            hours = plan.hours;
            need = plan.need;
            every = plan.every;
            log.clear();
            int hour = 0;
            if (earlier == null || from < 1 || from >= MOST_HOURS) {
                System.arraycopy(plan.start, 0, now, 0, MOST_PEOPLE);
                alive = (1 << people) - 1;
            } else {
                hour = from;
                System.arraycopy(earlier.bread, (from - 1) * MOST_PEOPLE, now, 0, MOST_PEOPLE);
                alive = earlier.lives[from - 1];
            }
            for (; hour < hours; hour++) {
                passHour(plan, hour);
            }
        }

        private void passHour(Plan plan, int hour) {
            int row = hour * MOST_PEOPLE;
            shakes[hour] = 0;
            gone[hour] = 0;
            for (int p = 0; p < MOST_PEOPLE; p++) {
                met[row + p] = 0;
                came[row + p] = 0;
            }
            if (hour == plan.loafHour && plan.loafTo >= 0 && plan.loafTo < people) {
                now[plan.loafTo] += plan.loafSize;
            }
            for (int a = 0; a < people; a++) {
                int others = (alive >> a & 1) == 0 ? 0 : alive & plan.open[a];
                for (int b = a + 1; b < people; b++) {
                    if ((others >> b & 1) != 0 && plan.where[row + a] == plan.where[row + b]) {
                        shakeHands(plan, hour, a, b);
                    }
                }
            }
            log.closeHour(hour);
            if (eatsAt(hour)) {
                eat();
            }
            System.arraycopy(now, 0, bread, row, MOST_PEOPLE);
            lives[hour] = alive;
        }

        private void shakeHands(Plan plan, int hour, int a, int b) {
            int row = hour * MOST_PEOPLE;
            shakes[hour]++;
            met[row + a] |= 1 << b;
            met[row + b] |= 1 << a;
            int giver = plan.giver(a, b, now[a], now[b]);
            log.write(a, b, giver);
            if (giver != NONE) {
                int taker = giver == a ? b : a;
                now[giver]--;
                now[taker]++;
                came[row + giver]--;
                came[row + taker]++;
                gone[hour]++;
            }
        }

        private void eat() {
            for (int p = 0; p < people; p++) {
                if ((alive >> p & 1) != 0) {
                    if (now[p] < need) {
                        alive &= ~(1 << p);
                    } else {
                        now[p] -= need;
                    }
                }
            }
        }

        boolean livesAt(int hour, int person) {
            return (lives[hour] >> person & 1) != 0;
        }

        private boolean eatsAt(int hour) {
            return every > 0 && (hour + 1) % every == 0;
        }

        /** Whoever lives behind a meal has eaten. */
        int eatenAt(int hour) {
            return eatsAt(hour) ? need * Integer.bitCount(lives[hour]) : 0;
        }

        int eatenBy(int person) {
            int sum = 0;
            for (int h = 0; h < hours; h++) {
                if (eatsAt(h) && livesAt(h, person)) {
                    sum += need;
                }
            }
            return sum;
        }

        int allEaten() {
            int sum = 0;
            for (int h = 0; h < hours; h++) {
                sum += eatenAt(h);
            }
            return sum;
        }

        int breadAt(int hour) {
            int sum = 0;
            for (int p = 0; p < people; p++) {
                sum += bread[hour * MOST_PEOPLE + p];
            }
            return sum;
        }

        int breadAtEnd(int person) {
            return hours < 1 ? 0 : bread[(hours - 1) * MOST_PEOPLE + person];
        }

        int starved() {
            return hours < 1 ? 0 : people - Integer.bitCount(lives[hours - 1]);
        }

        int dead() {
            return hours < 1 ? 0 : ((1 << people) - 1) & ~lives[hours - 1];
        }

        int firstStarving() {
            for (int h = 0; h < hours; h++) {
                if (lives[h] != (1 << people) - 1) {
                    return h;
                }
            }
            return NONE;
        }

        int starvingHour(int person) {
            for (int h = 0; h < hours; h++) {
                if (!livesAt(h, person)) {
                    return h;
                }
            }
            return NONE;
        }

        int allShakes() {
            int sum = 0;
            for (int h = 0; h < hours; h++) {
                sum += shakes[h];
            }
            return sum;
        }

        int shakesOf(int person) {
            int sum = 0;
            for (int h = 0; h < hours; h++) {
                sum += Integer.bitCount(met[h * MOST_PEOPLE + person]);
            }
            return sum;
        }

        int richestHour(int person) {
            int best = 0;
            for (int h = 1; h < hours; h++) {
                if (bread[h * MOST_PEOPLE + person] > bread[best * MOST_PEOPLE + person]) {
                    best = h;
                }
            }
            return best;
        }

        int richestAtEnd() {
            return hours < 1 ? NONE : richestOf(hours - 1, (1 << people) - 1);
        }

        int richestLiving(int hour) {
            return richestOf(hour, lives[hour]);
        }

        private int richestOf(int hour, int who) {
            int row = hour * MOST_PEOPLE;
            int best = NONE;
            for (int p = 0; p < people; p++) {
                if ((who >> p & 1) != 0 && (best == NONE || bread[row + p] > bread[row + best])) {
                    best = p;
                }
            }
            return best;
        }

        private int metEver(int person) {
            int all = 0;
            for (int h = 0; h < hours; h++) {
                all |= met[h * MOST_PEOPLE + person];
            }
            return all;
        }

        int couples() {
            int twice = 0;
            for (int p = 0; p < people; p++) {
                twice += Integer.bitCount(metEver(p));
            }
            return twice / 2;
        }

        int parts() {
            int left = (1 << people) - 1;
            int parts = 0;
            for (int p = 0; p < people; p++) {
                if ((left >> p & 1) != 0) {
                    left &= ~joinedTo(p);
                    parts++;
                }
            }
            return parts;
        }

        private int joinedTo(int person) {
            int joined = 1 << person;
            // one more is joined in each round but the last, so there can't be more rounds than people
            for (int round = 0; round < people; round++) {
                for (int p = 0; p < people; p++) {
                    if ((joined >> p & 1) != 0) {
                        joined |= metEver(p);
                    }
                }
            }
            return joined;
        }

        /** The first hour whose state is another one for this one by another run. */
        int firstUnlike(Run run, int person) {
            for (int h = 0; h < hours; h++) {
                int i = h * MOST_PEOPLE + person;
                if (bread[i] != run.bread[i] || livesAt(h, person) != run.livesAt(h, person)) {
                    return h;
                }
            }
            return NONE;
        }

        int mayBeWith(Plan plan, int person, int hour) {
            int may = 1 << person;
            System.arraycopy(plan.start, 0, now, 0, MOST_PEOPLE);
            for (int h = 0; h <= hour && h < hours; h++) {
                may = mayBehindShakes(may, h);
                may = mayBehindMeal(may, h);
            }
            return may;
        }

        int bite(Plan plan, int person, int hour) {
            int may = 1 << person;
            System.arraycopy(plan.start, 0, now, 0, MOST_PEOPLE);
            for (int h = 0; h <= hour && h < hours; h++) {
                may = mayBehindShakes(may, h);
                if (need > 0 && eatsAt(h) && (may & lives[h]) != 0) {
                    return h;
                }
                may = mayBehindMeal(may, h);
            }
            return NONE;
        }

        private int mayBehindShakes(int mayAhead, int hour) {
            int may = mayAhead;
            for (int e = log.firstOf(hour); e < log.endOf(hour); e++) {
                int giver = log.giver[e];
                if (giver != NONE) {
                    int taker = giver == log.first[e] ? log.second[e] : log.first[e];
                    now[giver]--;
                    now[taker]++;
                    may |= (may >> giver & 1) << taker;
                    may &= now[giver] < 1 ? ~(1 << giver) : -1;
                }
            }
            return may;
        }

        private int mayBehindMeal(int mayAhead, int hour) {
            int may = mayAhead;
            System.arraycopy(bread, hour * MOST_PEOPLE, now, 0, MOST_PEOPLE);
            for (int p = 0; p < people; p++) {
                if (now[p] < 1) {
                    may &= ~(1 << p);
                }
            }
            return may;
        }
    }

    /** All hands shaken in a run, in their order. */
    private static final class Hands {
        private static final int MOST_SHAKES = MOST_HOURS * MOST_PEOPLE * (MOST_PEOPLE - 1) / 2;

        final int[] first = new int[MOST_SHAKES];
        final int[] second = new int[MOST_SHAKES];
        final int[] giver = new int[MOST_SHAKES];
        private final int[] end = new int[MOST_HOURS];
        private int count;

        void clear() {
            count = 0;
            Arrays.fill(end, 0);
        }

        void write(int a, int b, int newGiver) {
            if (count < MOST_SHAKES) {
                first[count] = a;
                second[count] = b;
                giver[count] = newGiver;
                count++;
            }
        }

        void closeHour(int hour) {
            if (hour >= 0 && hour < MOST_HOURS) {
                end[hour] = count;
            }
        }

        int firstOf(int hour) {
            return hour < 1 || hour > MOST_HOURS ? 0 : end[hour - 1];
        }

        int endOf(int hour) {
            return hour < 0 || hour >= MOST_HOURS ? 0 : end[hour];
        }

        /** Whom a thing has reached behind an hour (bits) that goes from one by all ungloved hands. */
        int reached(int from, int hour, int gloved) {
            int have = 1 << from;
            for (int e = 0; e < endOf(hour); e++) {
                int both = 1 << first[e] | 1 << second[e];
                if ((both & gloved) == 0 && (both & have) != 0) {
                    have |= both;
                }
            }
            return have;
        }

        /** The first hour in which it has reached another one. */
        int reachedFirst(int from, int to, int hours, int gloved) {
            for (int h = 0; h < hours; h++) {
                if ((reached(from, h, gloved) >> to & 1) != 0) {
                    return h;
                }
            }
            return NONE;
        }

        int reachedByLot(int from, int gloved, int seed, int chance) {
            int x = seed;
            int have = 1 << from;
            for (int e = 0; e < count; e++) {
                int both = 1 << first[e] | 1 << second[e];
                boolean oneHasIt = Integer.bitCount(both & have) == 1;
                if ((both & gloved) == 0 && oneHasIt) {
                    x = x * 1103515245 + 12345;
                    if ((x >>> 16) % MOST_CHANCE < chance) {
                        have |= both;
                    }
                }
            }
            return have;
        }
    }

    // ---- unlike runs ----

    /** Tries runs that are unlike in one thing, and keeps the best. */
    private static final class Trials {
        private static final int MOST_ROUNDS = 20;
        private static final int MOST_NEED = 9;

        /** What the latest of the find methods has found. */
        final int[] found = new int[4];
        private final Plan plan;
        private final Run base;
        private final Run trial;

        Trials(Plan aPlan, Run aBase, Run aTrial) {
            plan = aPlan;
            base = aBase;
            trial = aTrial;
        }

        private void begin(Town t) {
            plan.lay(t);
            base.go(plan, null, 0);
        }

        private int starvedByPlan() {
            trial.go(plan, null, 0);
            return trial.starved();
        }

        private void keepFound(int a, int b, int c, int d) {
            found[0] = a;
            found[1] = b;
            found[2] = c;
            found[3] = d;
        }

        private boolean isFewer(int bits, int best) {
            return best == NONE || Integer.bitCount(bits) < Integer.bitCount(best);
        }

        int fewestGloves(Town t) {
            plan.lay(t);
            int byManner = plan.gloved;
            int best = NONE;
            for (int bits = 0; bits < 1 << plan.people; bits++) {
                plan.gloved = byManner | bits;
                if (isFewer(bits, best) && starvedByPlan() == 0) {
                    best = bits;
                }
            }
            return best;
        }

        int fewestQuarrels(Town t) {
            plan.lay(t);
            int best = NONE;
            for (int bits = 0; bits < 1 << t.quarrels; bits++) {
                if (isFewer(bits, best)) {
                    plan.openHands(t, bits);
                    trial.go(plan, null, 0);
                    best = trial.parts() <= 1 ? bits : best;
                }
            }
            return best;
        }

        /** Finds the hour, who, the cell, how many starve. */
        boolean findOrder(Town t) {
            begin(t);
            keepFound(NONE, NONE, NONE, base.starved());
            for (int h = 0; found[3] > 0 && h < plan.hours; h++) {
                for (int p = 0; p < plan.people; p++) {
                    tryCells(t, h, p);
                }
            }
            return found[0] != NONE;
        }

        private void tryCells(Town t, int hour, int person) {
            int own = t.cellAt(person, hour);
            boolean triedAlone = false;
            for (int c = 0; c < t.columns * t.rows; c++) {
                // all cells where he is alone make the same run
                boolean alone = !plan.isOtherThere(hour, person, c);
                if (c != own && !(alone && triedAlone)) {
                    plan.send(hour, person, c);
                    trial.go(plan, base, hour);
                    if (trial.starved() < found[3]) {
                        keepFound(hour, person, c, trial.starved());
                    }
                    triedAlone |= alone;
                }
            }
            plan.send(hour, person, own);
        }

        /** Finds his bread at the end, and the walk's number. */
        void findWalk(Town t, int person, int hour, int m) {
            begin(t);
            keepFound(NONE, NONE, NONE, NONE);
            for (int number = 0; m >= 0 && m < WALKS.length && number < WALKS[m]; number++) {
                if (goWalk(t, person, hour, m, number)) {
                    trial.go(plan, base, hour);
                    int bread = trial.breadAtEnd(person);
                    if (bread > found[0]) {
                        keepFound(bread, number, NONE, NONE);
                    }
                }
            }
        }

        /** Whether all of this walk is in the town. */
        private boolean goWalk(Town t, int person, int hour, int m, int number) {
            int cell = hour == 0 ? t.cell[person] : t.cellAt(person, hour - 1);
            for (int i = 0; i < m; i++) {
                cell = t.cellBeside(cell, wayOf(number, m, i));
                if (cell == NONE) {
                    return false;
                }
                plan.send(hour + i, person, cell);
            }
            return true;
        }

        /** Finds the law, and how many starve. */
        void findLaw(Town t) {
            plan.lay(t);
            keepFound(NONE, NONE, NONE, NONE);
            for (int law = 0; law < LAWS; law++) {
                plan.law = law;
                int starved = starvedByPlan();
                if (found[0] == NONE || starved < found[1]) {
                    keepFound(law, starved, NONE, NONE);
                }
            }
        }

        int leastAid(Town t, int person) {
            begin(t);
            if (base.starved() == 0) {
                return 0;
            }
            for (int n = 1; n <= MOST_LOAF; n++) {
                plan.letIn(person, 0, n);
                if (starvedByPlan() == 0) {
                    return n;
                }
            }
            return NONE;
        }

        int greatestNeed(Town t) {
            plan.lay(t);
            for (int need = MOST_NEED; need >= 0; need--) {
                plan.need = need;
                if (starvedByPlan() == 0) {
                    return need;
                }
            }
            return NONE;
        }

        int leastEvery(Town t) {
            plan.lay(t);
            for (int every = 1; every <= MOST_HOURS; every++) {
                plan.every = every;
                if (starvedByPlan() == 0) {
                    return every;
                }
            }
            return NONE;
        }

        /** Finds the two, and how many starve. */
        boolean findSwap(Town t) {
            begin(t);
            keepFound(NONE, NONE, base.starved(), NONE);
            for (int a = 0; a < plan.people; a++) {
                for (int b = a + 1; b < plan.people; b++) {
                    plan.change(a, b);
                    int starved = starvedByPlan();
                    if (starved < found[2]) {
                        keepFound(a, b, starved, NONE);
                    }
                    plan.change(a, b);
                }
            }
            return found[0] != NONE;
        }

        /** Finds the hour, and how many starve. */
        void findWedding(Town t) {
            begin(t);
            keepFound(NONE, NONE, NONE, NONE);
            for (int h = 0; h < t.hours; h++) {
                plan.lay(t);
                // whichever cell it is, all meet all
                plan.gather(h, 0);
                trial.go(plan, base, h);
                if (found[0] == NONE || trial.starved() < found[1]) {
                    keepFound(h, trial.starved(), NONE, NONE);
                }
            }
        }

        /** Finds who gets the loaf, and how many it saves. */
        void findTunnel(Town t, int hour, int n) {
            begin(t);
            keepFound(NONE, NONE, NONE, NONE);
            for (int p = 0; p < plan.people; p++) {
                plan.letIn(p, hour, n);
                trial.go(plan, base, hour);
                int saved = base.starved() - trial.starved();
                if (found[0] == NONE || saved > found[1]) {
                    keepFound(p, saved, NONE, NONE);
                }
            }
        }

        int richestBy(Town t, int law) {
            plan.lay(t);
            plan.law = law;
            trial.go(plan, null, 0);
            return trial.richestAtEnd();
        }

        int evenestLaw(Town t) {
            plan.lay(t);
            int best = NONE;
            int bestSpan = 0;
            for (int law = 0; law < LAWS; law++) {
                plan.law = law;
                trial.go(plan, null, 0);
                int span = spanAtEnd();
                if (best == NONE || span < bestSpan) {
                    best = law;
                    bestSpan = span;
                }
            }
            return best;
        }

        private int spanAtEnd() {
            int most = trial.breadAtEnd(0);
            int least = most;
            for (int p = 1; p < plan.people; p++) {
                most = Math.max(most, trial.breadAtEnd(p));
                least = Math.min(least, trial.breadAtEnd(p));
            }
            return most - least;
        }

        /** Finds who, and how much more he has. */
        void findMiser(Town t) {
            begin(t);
            int byManner = plan.gloved;
            keepFound(NONE, 0, NONE, NONE);
            for (int p = 0; p < plan.people; p++) {
                plan.gloved = byManner | 1 << p;
                trial.go(plan, null, 0);
                int more = trial.breadAtEnd(p) - base.breadAtEnd(p);
                if (more > found[1]) {
                    keepFound(p, more, NONE, NONE);
                }
            }
        }

        /** Finds who wears gloves at last (bits), and the rounds. */
        void findRest(Town t) {
            plan.lay(t);
            int byManner = plan.gloved;
            int rounds = NONE;
            for (int round = 1; rounds == NONE && round <= MOST_ROUNDS; round++) {
                rounds = changeGloves(byManner) ? NONE : round;
            }
            keepFound(plan.gloved & ~byManner, rounds, NONE, NONE);
        }

        /** Whether anybody has changed in a round. */
        private boolean changeGloves(int byManner) {
            boolean changed = false;
            for (int p = 0; p < plan.people; p++) {
                if ((byManner >> p & 1) == 0) {
                    trial.go(plan, null, 0);
                    int asHeIs = trial.breadAtEnd(p);
                    plan.gloved ^= 1 << p;
                    trial.go(plan, null, 0);
                    if (trial.breadAtEnd(p) > asHeIs) {
                        changed = true;
                    } else {
                        plan.gloved ^= 1 << p;
                    }
                }
            }
            return changed;
        }
    }

    /** All that may have been of a town by a book. */
    private static final class Worlds {
        /** More than all of eight people can have, of 30 and 3 ounces each. */
        private static final int BREADS = 265;

        int runs;
        int count;
        int doomed;
        int danger;
        final int[] found = new int[3];
        private final Plan plan;
        private final Run trial;
        /** By hour, one, bread: in how many worlds he has so much. */
        private final int[] having = new int[MOST_HOURS * MOST_PEOPLE * BREADS];

        Worlds(Plan aPlan, Run aTrial) {
            plan = aPlan;
            trial = aTrial;
        }

        /** Looks at none if there are too many runs. */
        void look(Town t, Book b) {
            runs = 1;
            count = 0;
            danger = 0;
            for (int p = 0; p < t.people; p++) {
                runs *= t.extra[p] + 1;
            }
            if (runs > MOST_RUNS) {
                return;
            }
            plan.lay(t);
            doomed = (1 << plan.people) - 1;
            Arrays.fill(having, 0);
            for (int number = 0; number < runs; number++) {
                startWith(t, number);
                trial.go(plan, null, 0);
                if (isSo(b)) {
                    addWorld();
                }
            }
        }

        /** Of a run's number each one's extra bread is a digit. */
        private void startWith(Town t, int number) {
            int rest = number;
            for (int p = 0; p < plan.people; p++) {
                int ways = Math.max(1, t.extra[p] + 1);
                plan.start[p] = t.bread[p] + rest % ways;
                rest /= ways;
            }
        }

        private boolean isSo(Book b) {
            for (int k = 0; k < b.notes; k++) {
                if (b.who[k] >= plan.people || b.hour[k] >= plan.hours) {
                    return false;
                }
                if (trial.bread[b.hour[k] * MOST_PEOPLE + b.who[k]] != b.bread[k]) {
                    return false;
                }
            }
            return true;
        }

        private void addWorld() {
            count++;
            doomed &= trial.dead();
            danger |= trial.dead();
            for (int h = 0; h < plan.hours; h++) {
                for (int p = 0; p < plan.people; p++) {
                    int bread = trial.bread[h * MOST_PEOPLE + p];
                    if (bread >= 0 && bread < BREADS) {
                        having[placeOf(h, p) + bread]++;
                    }
                }
            }
        }

        private int placeOf(int hour, int person) {
            return (hour * MOST_PEOPLE + person) * BREADS;
        }

        int leastOf(int hour, int person) {
            for (int bread = 0; bread < BREADS; bread++) {
                if (having[placeOf(hour, person) + bread] > 0) {
                    return bread;
                }
            }
            return NONE;
        }

        int mostOf(int hour, int person) {
            for (int bread = BREADS - 1; bread >= 0; bread--) {
                if (having[placeOf(hour, person) + bread] > 0) {
                    return bread;
                }
            }
            return NONE;
        }

        /** Finds the hour, who, the greatest part. */
        void findSearch(Town t) {
            found[0] = NONE;
            found[1] = NONE;
            found[2] = NONE;
            for (int h = 0; h < t.hours; h++) {
                for (int p = 0; p < t.people; p++) {
                    int part = greatestPart(h, p);
                    if (found[2] == NONE || part < found[2]) {
                        found[0] = h;
                        found[1] = p;
                        found[2] = part;
                    }
                }
            }
        }

        private int greatestPart(int hour, int person) {
            int greatest = 0;
            for (int bread = 0; bread < BREADS; bread++) {
                greatest = Math.max(greatest, having[placeOf(hour, person) + bread]);
            }
            return greatest;
        }
    }
}
