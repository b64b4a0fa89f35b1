/**
 * Pledges that hold if others do. What each call promises stands in ../shared/DOC.md.
 *
 * Sets of pledges are bits: bit k is for the pledge with number k.
 */
public final class PledgeTips {
    public static final int INVALID_ARGUMENT = -1;
    public static final int NOT_POSSIBLE = -2;
    public static final int LIMIT_REACHED = -3;
    public static final int NOT_FOUND = -4;

    private static final int MAX_PROJECTS = 4;
    private static final int MAX_PERSONS = 8;
    private static final int MAX_PLEDGES = 12;
    private static final int MAX_STATES = 4;
    private static final int MAX_TEXT = 80;
    private static final int MAX_NUMBER = 999;

    private static final int UNCONDITIONAL = 0;
    private static final int OTHERS_COME_TO = 1;
    private static final int OTHERS_ARE_MANY = 2;
    private static final int PERSON_TAKES_PART = 3;
    private static final int PROJECT_HAS_GOAL = 4;

    private static final int FIRST_CHARACTER = 32;
    private static final int LAST_CHARACTER = 126;

    /** Above every turn that 512 calls can reach, so that turns can be the low bits of a key. */
    private static final int TURN_BITS = 20;

    private final Place now;
    private final Judge judge;
    private final Clerk clerk;
    private final Script script;
    /** One slot more than states are kept: the last one takes the state ahead of a call that may fail. */
    private final Place[] history;
    private int states;
    private final long[] keys;

    public PledgeTips() {
        now = new Place();
        judge = new Judge(now);
        clerk = new Clerk(now, judge);
        script = new Script();
        history = new Place[MAX_STATES + 1];
        for (int i = 0; i <= MAX_STATES; i++) {
            history[i] = new Place();
        }
        keys = new long[MAX_PLEDGES];
    }

    // ---- projects, persons, pledges

    public int project(int goal) {
        keepState();
        return settle(clerk.addProject(goal));
    }

    public int person(int purse) {
        keepState();
        return settle(clerk.addPerson(purse));
    }

    public int pledge(int person, int project, int amount, int kind, int value) {
        keepState();
        return settle(clerk.makePledge(person, project, amount, kind, value));
    }

    public int withdraw(int pledge) {
        keepState();
        return settle(clerk.takeBack(pledge));
    }

    public int callIn(int project) {
        keepState();
        return settle(clerk.collect(project));
    }

    // ---- what there is

    public int pledgeOf(int pledge, int what) {
        if (!now.hasPledge(pledge) || what < 0 || what > 9) {
            return INVALID_ARGUMENT;
        }
        switch (what) {
            case 0: return now.giver[pledge];
            case 1: return now.target[pledge];
            case 2: return now.amount[pledge];
            case 3: return now.kind[pledge];
            case 4: return now.value[pledge];
            case 5: return now.called >> pledge & 1;
            case 6: return judge.stand() >> pledge & 1;
            case 7: return fallOf(pledge);
            case 8: return now.turn[pledge];
            default: return toppledBy(pledge);
        }
    }

    public int projectOf(int project, int what) {
        if (!now.hasProject(project) || what < 0 || what > 9) {
            return INVALID_ARGUMENT;
        }
        int own = now.pledgesFor(project);
        switch (what) {
            case 0: return now.goal[project];
            case 1: return now.sum(own);
            case 2: return now.sum(own & judge.stand());
            case 3: return judge.hasGoal(project) ? 1 : 0;
            case 4: return now.closed >> project & 1;
            case 5: return own;
            case 6: return own & judge.stand();
            case 7: return judge.hasGoal(project) ? judge.tip(project) : NOT_FOUND;
            case 8: return judge.hasGoal(project) ? judge.needed(project) : NOT_FOUND;
            default: return now.isClosed(project) ? NOT_FOUND : judge.push(project);
        }
    }

    public int personOf(int person, int what) {
        if (!now.hasPerson(person) || what < 0 || what > 5) {
            return INVALID_ARGUMENT;
        }
        int own = now.pledgesOf(person);
        switch (what) {
            case 0: return now.purse[person];
            case 1: return now.sum(own & now.open);
            case 2: return now.sum(own & now.open & judge.stand());
            case 3: return now.paid[person];
            case 4: return own;
            default: return Integer.bitCount(judge.fallenWithout(own & now.open) & ~own);
        }
    }

    public int standing(int without) {
        int error = errorOfSet(without);
        return error < 0 ? error : judge.standWithout(without);
    }

    public int setOf(int set, int what) {
        if (what < 0 || what > 2) {
            return INVALID_ARGUMENT;
        }
        int error = errorOfSet(set);
        if (error < 0) {
            return error;
        }
        switch (what) {
            case 0: return judge.failing(set, now.called) == 0 ? 1 : 0;
            case 1: return judge.failing(set, now.called);
            default: return judge.greatest(set, now.called);
        }
    }

    public int orderAt(int order, int place) {
        if (order < 0 || order > 2 || place < 0) {
            return INVALID_ARGUMENT;
        }
        for (int p = 0; p < MAX_PLEDGES; p++) {
            keys[p] = keyOf(order, p);
        }
        for (int p = 0; p < MAX_PLEDGES; p++) {
            if (now.hasPledge(p) && keysBelow(keys[p]) == place) {
                return p;
            }
        }
        return NOT_FOUND;
    }

    public int count(int what) {
        switch (what) {
            case 0: return now.projects;
            case 1: return now.persons;
            case 2: return Integer.bitCount(now.pledges());
            case 3: return Integer.bitCount(now.open);
            case 4: return judge.stand();
            case 5: return judge.waves();
            case 6: return judge.setsThatHold();
            case 7: return judge.projectsWithGoal();
            case 8: return now.made;
            case 9: return now.withdrawn;
            case 10: return now.money;
            case 11: return states;
            case 12: return script.length;
            default: return INVALID_ARGUMENT;
        }
    }

    public int undo() {
        if (states <= 0) {
            return NOT_POSSIBLE;
        }
        states--;
        now.copyFrom(history[states]);
        return states;
    }

    // ---- texts

    public int type(int character) {
        if (character < FIRST_CHARACTER || character > LAST_CHARACTER) {
            return INVALID_ARGUMENT;
        }
        return script.append((char) character);
    }

    public int clearText() {
        return script.empty();
    }

    public int fault(int what) {
        if (what < 0 || what > 2) {
            return INVALID_ARGUMENT;
        }
        script.tryOn(now);
        switch (what) {
            case 0: return script.faultPosition;
            case 1: return script.faultReason;
            default: return script.faultCause;
        }
    }

    public int play() {
        script.tryOn(now);
        if (script.hasFault()) {
            return NOT_POSSIBLE;
        }
        keepState();
        now.copyFrom(script.outcome);
        return settle(script.commands);
    }

    // ---- the history

    /** Ahead of the call that may change the state, as it is only known afterwards whether it did. */
    private void keepState() {
        history[states].copyFrom(now);
    }

    /** Makes the kept state one of the history if the call returned no error. */
    private int settle(int answer) {
        if (answer >= 0) {
            states++;
            if (states > MAX_STATES) {
                dropOldest();
            }
        }
        return answer;
    }

    /** The dropped place becomes the free slot, so that no call makes a new one. */
    private void dropOldest() {
        Place oldest = history[0];
        for (int i = 0; i < MAX_STATES; i++) {
            history[i] = history[i + 1];
        }
        history[MAX_STATES] = oldest;
        states = MAX_STATES;
    }

    // ---- parts of answers

    private int fallOf(int pledge) {
        int wave = judge.waveOf(pledge);
        return wave == 0 ? NOT_FOUND : wave;
    }

    private int toppledBy(int pledge) {
        int itself = 1 << pledge;
        if ((now.called & itself) != 0) {
            return NOT_POSSIBLE;
        }
        return judge.fallenWithout(itself) & ~itself;
    }

    /** The error of a set that should be one of open pledges, or 0. */
    private int errorOfSet(int set) {
        if ((set & ~now.pledges()) != 0) {
            return INVALID_ARGUMENT;
        }
        return (set & now.called) != 0 ? NOT_POSSIBLE : 0;
    }

    /** Smaller keys are ahead; no two pledges have the same key in the same order. */
    private long keyOf(int order, int pledge) {
        if (order == 0) {
            return (long) (MAX_NUMBER - now.amount[pledge]) << TURN_BITS | now.turn[pledge];
        }
        if (order == 1) {
            int wave = judge.waveOf(pledge);
            int rank = wave == 0 ? 0 : MAX_PLEDGES + 1 - wave;
            return (long) rank * MAX_PLEDGES + pledge;
        }
        int pair = now.target[pledge] * MAX_PERSONS + now.giver[pledge];
        return (long) pair << TURN_BITS | now.turn[pledge];
    }

    private int keysBelow(long key) {
        int below = 0;
        for (int p = 0; p < MAX_PLEDGES; p++) {
            if (now.hasPledge(p) && keys[p] < key) {
                below++;
            }
        }
        return below;
    }

    /** Everything that the history records: projects, persons, pledges and what was done so far. */
    private static final class Place {
        /** The slot of a pledge that is only thought of; it is in no set but those of the Judge. */
        private static final int EXTRA = MAX_PLEDGES;
        private static final int SLOTS = MAX_PLEDGES + 1;

        private int projects;
        private final int[] goal = new int[MAX_PROJECTS];
        /** The set of closed projects. */
        private int closed;
        private int persons;
        private final int[] purse = new int[MAX_PERSONS];
        private final int[] paid = new int[MAX_PERSONS];
        /** The set of open pledges, and the one of called ones. */
        private int open;
        private int called;
        private final int[] giver = new int[SLOTS];
        private final int[] target = new int[SLOTS];
        private final int[] amount = new int[SLOTS];
        private final int[] kind = new int[SLOTS];
        private final int[] value = new int[SLOTS];
        private final int[] turn = new int[SLOTS];
        private int made;
        private int withdrawn;
        private int money;

        private void copyFrom(Place other) {
            projects = other.projects;
            closed = other.closed;
            persons = other.persons;
            open = other.open;
            called = other.called;
            made = other.made;
            withdrawn = other.withdrawn;
            money = other.money;
            System.arraycopy(other.goal, 0, goal, 0, MAX_PROJECTS);
            System.arraycopy(other.purse, 0, purse, 0, MAX_PERSONS);
            System.arraycopy(other.paid, 0, paid, 0, MAX_PERSONS);
            System.arraycopy(other.giver, 0, giver, 0, SLOTS);
            System.arraycopy(other.target, 0, target, 0, SLOTS);
            System.arraycopy(other.amount, 0, amount, 0, SLOTS);
            System.arraycopy(other.kind, 0, kind, 0, SLOTS);
            System.arraycopy(other.value, 0, value, 0, SLOTS);
            System.arraycopy(other.turn, 0, turn, 0, SLOTS);
        }

        private boolean hasProject(int number) {
            return number >= 0 && number < projects;
        }

        private boolean hasPerson(int number) {
            return number >= 0 && number < persons;
        }

        private boolean hasPledge(int number) {
            return number >= 0 && number < MAX_PLEDGES && (pledges() >> number & 1) != 0;
        }

        private boolean isClosed(int project) {
            return (closed >> project & 1) != 0;
        }

        private int pledges() {
            return open | called;
        }

        private int pledgesFor(int project) {
            int set = 0;
            for (int p = 0; p < MAX_PLEDGES; p++) {
                if (target[p] == project) {
                    set |= 1 << p;
                }
            }
            return set & pledges();
        }

        private int pledgesOf(int person) {
            int set = 0;
            for (int p = 0; p < MAX_PLEDGES; p++) {
                if (giver[p] == person) {
                    set |= 1 << p;
                }
            }
            return set & pledges();
        }

        private int pledgesUpTo(int lastTurn) {
            int set = 0;
            for (int p = 0; p < MAX_PLEDGES; p++) {
                if (turn[p] <= lastTurn) {
                    set |= 1 << p;
                }
            }
            return set & pledges();
        }

        private int sum(int set) {
            int sum = 0;
            for (int p = 0; p < MAX_PLEDGES; p++) {
                if ((set >> p & 1) != 0) {
                    sum += amount[p];
                }
            }
            return sum;
        }

        /** MAX_PLEDGES if there is none. */
        private int lowestFreeNumber() {
            int number = 0;
            while (number < MAX_PLEDGES && hasPledge(number)) {
                number++;
            }
            return number;
        }

        /** One more pledge for the project, without condition, of someone else than all persons. */
        private void thinkOfExtra(int project, int extraAmount) {
            giver[EXTRA] = MAX_PERSONS;
            target[EXTRA] = project;
            amount[EXTRA] = extraAmount;
            kind[EXTRA] = UNCONDITIONAL;
            value[EXTRA] = 0;
        }
    }

    /** Which pledges stand together in a place, and what follows for its projects. */
    private static final class Judge {
        /** A push is at most 999: so many halvings find it. */
        private static final int HALVINGS = 10;

        private final Place place;
        /** Of the set that was gathered last: sums and counts by projects, and who takes part. */
        private final int[] sums = new int[MAX_PROJECTS];
        private final int[] counts = new int[MAX_PROJECTS];
        private int givers;

        private Judge(Place place) {
            this.place = place;
        }

        private void gather(int members) {
            for (int i = 0; i < MAX_PROJECTS; i++) {
                sums[i] = 0;
                counts[i] = 0;
            }
            givers = 0;
            for (int p = 0; p < Place.SLOTS; p++) {
                int project = place.target[p];
                if ((members >> p & 1) != 0 && project >= 0 && project < MAX_PROJECTS) {
                    sums[project] += place.amount[p];
                    counts[project]++;
                    givers |= 1 << place.giver[p];
                }
            }
        }

        /** Whether the condition of a pledge holds within the gathered set, which has it within. */
        private boolean holds(int pledge) {
            int kind = place.kind[pledge];
            int value = place.value[pledge];
            int project = kind == PROJECT_HAS_GOAL ? value : place.target[pledge];
            if (project < 0 || project >= MAX_PROJECTS) {
                return false;
            }
            switch (kind) {
                case OTHERS_COME_TO: return sums[project] - place.amount[pledge] >= value;
                case OTHERS_ARE_MANY: return counts[project] - 1 >= value;
                case PERSON_TAKES_PART: return (givers >> value & 1) != 0;
                case PROJECT_HAS_GOAL: return sums[project] >= place.goal[project];
                default: return true;
            }
        }

        /** Those of the set whose condition does not hold within it and the others together. */
        private int failing(int set, int others) {
            gather(set | others);
            int failing = 0;
            for (int p = 0; p < MAX_PLEDGES; p++) {
                if ((set >> p & 1) != 0 && !holds(p)) {
                    failing |= 1 << p;
                }
            }
            return failing;
        }

        /** What is left of the set when no more fall; the others are members, and never fall. */
        private int greatest(int set, int others) {
            int left = set;
            for (int wave = 1; wave <= MAX_PLEDGES; wave++) {
                int falling = failing(left, others);
                if (falling == 0) {
                    break;
                }
                left &= ~falling;
            }
            return left;
        }

        private int stand() {
            return standWithout(0);
        }

        private int standWithout(int gone) {
            return greatest(place.open & ~gone, place.called) | place.called;
        }

        /** Those that stand, and would not without these, which are among them if they stand. */
        private int fallenWithout(int gone) {
            return stand() & ~standWithout(gone);
        }

        /** 0 if it stands. */
        private int waveOf(int pledge) {
            int left = place.open;
            for (int wave = 1; wave <= MAX_PLEDGES; wave++) {
                int falling = failing(left, place.called);
                if ((falling >> pledge & 1) != 0) {
                    return wave;
                }
                left &= ~falling;
            }
            return 0;
        }

        private int waves() {
            int left = place.open;
            int waves = 0;
            for (int wave = 1; wave <= MAX_PLEDGES; wave++) {
                int falling = failing(left, place.called);
                if (falling == 0) {
                    break;
                }
                waves = wave;
                left &= ~falling;
            }
            return waves;
        }

        /** All of them are within the greatest one: no other set needs a look. */
        private int setsThatHold() {
            int greatest = greatest(place.open, place.called);
            int sets = 0;
            for (int set = 0; set <= greatest; set++) {
                if ((set & ~greatest) == 0 && failing(set, place.called) == 0) {
                    sets++;
                }
            }
            return sets;
        }

        /** Whether the project has its goal if there are these open and these called pledges alone. */
        private boolean reaches(int project, int open, int called) {
            int stand = greatest(open, called) | called;
            return place.sum(place.pledgesFor(project) & stand) >= place.goal[project];
        }

        private boolean hasGoal(int project) {
            return reaches(project, place.open, place.called);
        }

        private int projectsWithGoal() {
            int projects = 0;
            for (int i = 0; i < MAX_PROJECTS; i++) {
                if (place.hasProject(i) && hasGoal(i)) {
                    projects++;
                }
            }
            return projects;
        }

        /** The earliest pledge behind which the project has its goal; it must have it. */
        private int tip(int project) {
            int tip = NOT_FOUND;
            int tipTurn = place.made;
            for (int p = 0; p < MAX_PLEDGES; p++) {
                if (place.hasPledge(p) && place.turn[p] < tipTurn) {
                    int sofar = place.pledgesUpTo(place.turn[p]);
                    if (reaches(project, place.open & sofar, place.called & sofar)) {
                        tip = p;
                        tipTurn = place.turn[p];
                    }
                }
            }
            return tip;
        }

        private int needed(int project) {
            int needed = 0;
            for (int p = 0; p < MAX_PLEDGES; p++) {
                int itself = 1 << p & place.open;
                if (itself != 0 && !reaches(project, place.open & ~itself, place.called)) {
                    needed |= itself;
                }
            }
            return needed;
        }

        /** A greater amount never does less, so the least one is found by halving. */
        private int push(int project) {
            if (hasGoal(project)) {
                return 0;
            }
            int low = 1;
            int high = place.goal[project];
            for (int i = 0; i < HALVINGS && low < high; i++) {
                int middle = (low + high) >> 1;
                if (reachesWith(project, middle)) {
                    high = middle;
                } else {
                    low = middle + 1;
                }
            }
            return low;
        }

        private boolean reachesWith(int project, int amount) {
            place.thinkOfExtra(project, amount);
            int stand = greatest(place.open, place.called | 1 << Place.EXTRA) | place.called;
            return place.sum(place.pledgesFor(project) & stand) + amount >= place.goal[project];
        }
    }

    /** Does the changes in a place; one that returns an error changes nothing. */
    private static final class Clerk {
        private final Place place;
        private final Judge judge;

        private Clerk(Place place, Judge judge) {
            this.place = place;
            this.judge = judge;
        }

        private int addProject(int goal) {
            if (goal < 1 || goal > MAX_NUMBER) {
                return INVALID_ARGUMENT;
            }
            int number = place.projects;
            if (number >= MAX_PROJECTS) {
                return LIMIT_REACHED;
            }
            place.goal[number] = goal;
            place.projects = number + 1;
            return number;
        }

        private int addPerson(int purse) {
            if (purse < 0 || purse > MAX_NUMBER) {
                return INVALID_ARGUMENT;
            }
            int number = place.persons;
            if (number >= MAX_PERSONS) {
                return LIMIT_REACHED;
            }
            place.purse[number] = purse;
            place.persons = number + 1;
            return number;
        }

        private int makePledge(int person, int project, int amount, int kind, int value) {
            if (!place.hasPerson(person) || !place.hasProject(project)
                    || amount < 1 || amount > MAX_NUMBER
                    || !isCondition(person, project, kind, value)) {
                return INVALID_ARGUMENT;
            }
            int promised = place.sum(place.pledgesOf(person) & place.open);
            if (place.isClosed(project) || place.purse[person] < promised + amount) {
                return NOT_POSSIBLE;
            }
            int number = place.lowestFreeNumber();
            if (number >= MAX_PLEDGES) {
                return LIMIT_REACHED;
            }
            place.giver[number] = person;
            place.target[number] = project;
            place.amount[number] = amount;
            place.kind[number] = kind;
            place.value[number] = value;
            place.turn[number] = place.made;
            place.made++;
            place.open |= 1 << number;
            return number;
        }

        private boolean isCondition(int person, int project, int kind, int value) {
            switch (kind) {
                case UNCONDITIONAL: return value == 0;
                case OTHERS_COME_TO: return value >= 1 && value <= MAX_NUMBER;
                case OTHERS_ARE_MANY: return value >= 1 && value < MAX_PLEDGES;
                case PERSON_TAKES_PART: return place.hasPerson(value) && value != person;
                case PROJECT_HAS_GOAL: return place.hasProject(value) && value != project;
                default: return false;
            }
        }

        private int takeBack(int pledge) {
            if (!place.hasPledge(pledge)) {
                return INVALID_ARGUMENT;
            }
            int itself = 1 << pledge;
            if ((place.called & itself) != 0) {
                return NOT_POSSIBLE;
            }
            int stood = judge.greatest(place.open, place.called);
            place.open &= ~itself;
            place.withdrawn++;
            return stood & ~judge.greatest(place.open, place.called);
        }

        /** A project that is not closed has open pledges alone. */
        private int collect(int project) {
            if (!place.hasProject(project)) {
                return INVALID_ARGUMENT;
            }
            int own = place.pledgesFor(project);
            int calling = own & judge.greatest(place.open, place.called);
            int money = place.sum(calling);
            if (place.isClosed(project) || money < place.goal[project]) {
                return NOT_POSSIBLE;
            }
            for (int i = 0; i < MAX_PERSONS; i++) {
                int paid = place.sum(calling & place.pledgesOf(i));
                place.purse[i] -= paid;
                place.paid[i] += paid;
            }
            place.open &= ~own;
            place.called |= calling;
            place.closed |= 1 << project;
            place.money += money;
            return money;
        }
    }

    /** The text, and what comes of it if its commands are done one after another. */
    private static final class Script {
        private static final int MOST_NUMBERS = 5;
        private static final int MOST_DIGITS = 3;
        private static final int NOT_OF_THE_FORM = -1;

        private final char[] text = new char[MAX_TEXT];
        private int length;
        private final int[] numbers = new int[MOST_NUMBERS];
        /** The place in which the commands are tried; only a text without fault is taken over from it. */
        private final Place outcome;
        private final Clerk clerk;
        private int commands;
        /** What fault() answers; NOT_FOUND where there is nothing to tell. */
        private int faultPosition;
        private int faultReason;
        private int faultCause;

        private Script() {
            outcome = new Place();
            clerk = new Clerk(outcome, new Judge(outcome));
        }

        private int append(char character) {
            if (length >= MAX_TEXT) {
                return LIMIT_REACHED;
            }
            text[length] = character;
            length++;
            return length;
        }

        private int empty() {
            int had = length;
            length = 0;
            return had;
        }

        private boolean hasFault() {
            return faultReason != NOT_FOUND;
        }

        private void tryOn(Place start) {
            outcome.copyFrom(start);
            commands = 0;
            tellFault(NOT_FOUND, NOT_FOUND, NOT_FOUND);
            int position = 0;
            while (position < length && commands < MAX_TEXT) {
                int next = readCommand(position);
                if (next == NOT_OF_THE_FORM) {
                    tellFault(position, 1, NOT_FOUND);
                    return;
                }
                int answer = doCommand(signAt(position));
                if (answer < 0) {
                    tellFault(position, 2, answer);
                    return;
                }
                commands++;
                position = next;
            }
        }

        private void tellFault(int position, int reason, int cause) {
            faultPosition = position;
            faultReason = reason;
            faultCause = cause;
        }

        /** Reads the numbers of the command; returns the position behind its ";". */
        private int readCommand(int start) {
            int wanted = numbersBehind(signAt(start));
            if (wanted == 0) {
                return NOT_OF_THE_FORM;
            }
            int position = start + 1;
            for (int i = 0; i < wanted; i++) {
                int end = readNumber(position, i);
                char sign = i + 1 < wanted ? ',' : ';';
                if (end == position || signAt(end) != sign) {
                    return NOT_OF_THE_FORM;
                }
                position = end + 1;
            }
            return position;
        }

        /** Returns the position behind the digits, which is the start if there are none. */
        private int readNumber(int start, int place) {
            int number = 0;
            int end = start;
            while (end < start + MOST_DIGITS && signAt(end) >= '0' && signAt(end) <= '9') {
                number = number * 10 + (signAt(end) - '0');
                end++;
            }
            if (place >= 0 && place < MOST_NUMBERS) {
                numbers[place] = number;
            }
            return end;
        }

        /** A sign that no command has, if the text has ended. */
        private char signAt(int position) {
            return position >= 0 && position < length && position < MAX_TEXT ? text[position] : (char) 0;
        }

        /** How many numbers the command has that begins with the letter; 0 if there is no such command. */
        private int numbersBehind(char letter) {
            switch (letter) {
                case 'g':
                case 'h':
                case 'w':
                case 'c': return 1;
                case 'p': return MOST_NUMBERS;
                default: return 0;
            }
        }

        private int doCommand(char letter) {
            switch (letter) {
                case 'g': return clerk.addProject(numbers[0]);
                case 'h': return clerk.addPerson(numbers[0]);
                case 'p': return clerk.makePledge(numbers[0], numbers[1], numbers[2], numbers[3], numbers[4]);
                case 'w': return clerk.takeBack(numbers[0]);
                case 'c': return clerk.collect(numbers[0]);
                default: return INVALID_ARGUMENT;
            }
        }
    }
}
