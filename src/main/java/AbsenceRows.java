/**
 * Absences of persons, the holiday that is left to them, the crews that they work in, and the calls for
 * replacements. Every promise is in ../shared/DOC.md; the words used here are those of its section 'Terms'.
 *
 * <p>Sets of persons and of skills are ints, one bit for each: there are at most 20 persons and 8 skills.
 */
public final class AbsenceRows {
    private static final int NONE = -1;

    private static final int DAYS = 730;
    private static final int YEARS = 2;
    private static final int DAYS_OF_YEAR = 365;
    private static final int DAYS_OF_WEEK = 7;
    private static final int FIRST_FREE_WEEKDAY = 5;
    private static final int HOURS_OF_DAY = 24;
    private static final int LAST_HOUR = 17519;
    private static final int MOST_HOURS_OF_TICK = 2000;

    private static final int MOST_PERSONS = 20;
    private static final int MOST_CREWS = 6;
    private static final int MOST_ASKS = 80;
    private static final int MOST_HELD = 100;
    private static final int MOST_CALLS = 60;

    private static final int SKILLS = 8;
    private static final int ALL_SKILLS = 255;
    private static final int TOP_RANK = 9;
    private static final int MOST_UP = 400;
    private static final int MOST_DOWN = 12;
    private static final int MOST_CARRY = 100;
    private static final int MOST_PATIENCE = 48;
    private static final int FIRST_PATIENCE = 2;

    /** Far above the 46 or so divisions that two ints can need at most. */
    private static final int MOST_STEPS_TO_DIVISOR = 1000;

    private static final int HOLIDAY = 0;
    private static final int ILLNESS = 1;
    private static final int DUTY = 2;

    private static final int FIRST_IS_HALF = 1;
    private static final int LAST_IS_HALF = 2;
    private static final int BOTH_ARE_HALF = 3;

    private static final int ASKED = 0;
    private static final int FIRST_STEP = 1;
    private static final int GRANTED = 2;
    private static final int WITHDRAWN = 3;
    private static final int HELD = 0;

    private static final int WAITS = 0;
    private static final int FILLED = 1;
    private static final int FAILED = 2;

    private final Calendar calendar = new Calendar();
    private final Persons persons = new Persons();
    private final Crews crews = new Crews();
    private final Asks asks = new Asks();
    private final HeldRows heldRows = new HeldRows();
    private final Calls calls = new Calls();
    private int carryDays = 0;
    private int patienceHours = FIRST_PATIENCE;
    private int hour = 0;

    public AbsenceRows() {
    }

    public int person(int skills, int rank, int since)
            throws IndexOutOfBoundsException, UnsupportedOperationException {
        if (!isWithin(skills, 0, ALL_SKILLS) || !isWithin(rank, 0, TOP_RANK) || !isDay(since)) {
            throw new IndexOutOfBoundsException("skills, rank or day");
        }
        if (persons.count >= MOST_PERSONS) {
            throw new UnsupportedOperationException("no room for a person");
        }
        return persons.add(skills, rank, since);
    }

    public void budget(int person, int up, int down)
            throws IllegalArgumentException, IndexOutOfBoundsException, IllegalStateException {
        if (!persons.has(person)) {
            throw new IllegalArgumentException("no such person");
        }
        if (!isWithin(up, 0, MOST_UP) || !isWithin(down, 1, MOST_DOWN)) {
            throw new IndexOutOfBoundsException("up or down");
        }
        if (!isEnough(up, down, person, 0, 0)) {
            throw new IllegalStateException("something would be left below 0");
        }
        persons.up[person] = up;
        persons.down[person] = down;
    }

    public void carry(int days) throws IndexOutOfBoundsException, IllegalStateException {
        if (!isWithin(days, 0, MOST_CARRY)) {
            throw new IndexOutOfBoundsException("days");
        }
        if (days < carryDays) {
            throw new IllegalStateException("less than it was");
        }
        carryDays = days;
    }

    public void holiday(int day) throws IndexOutOfBoundsException, IllegalStateException {
        if (!isDay(day)) {
            throw new IndexOutOfBoundsException("no such day");
        }
        if (calendar.isHoliday[day]) {
            throw new IllegalStateException("it is a holiday");
        }
        calendar.isHoliday[day] = true;
    }

    public int working(int from, int to) throws IndexOutOfBoundsException {
        if (!isSpan(from, to)) {
            throw new IndexOutOfBoundsException("no such days");
        }
        return calendar.workingDays(from, to);
    }

    public int crew(int skills, int least) throws IndexOutOfBoundsException, UnsupportedOperationException {
        if (!isWithin(skills, 0, ALL_SKILLS) || !isWithin(least, 0, MOST_PERSONS)) {
            throw new IndexOutOfBoundsException("skills or least");
        }
        if (crews.count >= MOST_CREWS) {
            throw new UnsupportedOperationException("no room for a crew");
        }
        return crews.add(skills, least);
    }

    public int member(int crew, int person, boolean on) throws IllegalArgumentException, IllegalStateException {
        if (!crews.has(crew) || !persons.has(person)) {
            throw new IllegalArgumentException("no such crew or person");
        }
        if (holds(crews.members[crew], person) == on) {
            throw new IllegalStateException("it is so");
        }
        crews.members[crew] ^= only(person);
        return Integer.bitCount(crews.members[crew]);
    }

    public int ask(int person, int kind, int from, int to, int halves)
            throws IllegalArgumentException, IndexOutOfBoundsException, IllegalStateException,
            UnsupportedOperationException {
        if (!persons.has(person) || !isWithin(kind, HOLIDAY, DUTY)) {
            throw new IllegalArgumentException("no such person or kind");
        }
        if (!isSpan(from, to) || yearOf(from) != yearOf(to) || !areHalves(halves, from, to)) {
            throw new IndexOutOfBoundsException("days or halves");
        }
        if (asks.overlap(person, from, to)) {
            throw new IllegalStateException("a day of it is one of another ask");
        }
        if (kind == HOLIDAY && !isEnoughFor(person, from, to, halves)) {
            throw new IllegalStateException("less than 0 would be left");
        }
        if (asks.count >= MOST_ASKS) {
            throw new UnsupportedOperationException("no room for an ask");
        }
        return asks.add(person, kind, from, to, halves);
    }

    public int grant(int ask, int who) throws IllegalArgumentException, IllegalStateException {
        if (!asks.has(ask) || !persons.has(who)) {
            throw new IllegalArgumentException("no such ask or person");
        }
        if (!asks.isOpen(ask) || asks.firstStepBy[ask] == who || !isAbove(who, asks.person[ask])) {
            throw new IllegalStateException("no step by this person");
        }
        if (!asks.isBeforeLastStep(ask)) {
            asks.makeFirstStep(ask, who);
            return FIRST_STEP;
        }
        int day = firstDayLeftShort(ask);
        if (day != NONE) {
            heldRows.keep(ask, day, crewLeftShort(asks.person[ask], day));
            return HELD;
        }
        asks.makeLastStep(ask, who);
        return GRANTED;
    }

    public int withdraw(int ask) throws IllegalArgumentException, IllegalStateException {
        if (!asks.has(ask)) {
            throw new IllegalArgumentException("no such ask");
        }
        if (asks.state[ask] == WITHDRAWN) {
            throw new IllegalStateException("it was withdrawn");
        }
        asks.state[ask] = WITHDRAWN;
        return halfDaysOf(ask);
    }

    public int askAt(int ask, int what) throws IllegalArgumentException {
        if (!asks.has(ask)) {
            throw new IllegalArgumentException("no such ask");
        }
        switch (what) {
            case 0:
                return asks.state[ask];
            case 1:
                return halfDaysOf(ask);
            case 2:
                return asks.firstStepBy[ask];
            case 3:
                return asks.person[ask];
            case 4:
                return asks.kind[ask];
            default:
                throw new IllegalArgumentException("no such what");
        }
    }

    public int left(int person, int year, int what) throws IllegalArgumentException {
        if (!persons.has(person) || !isWithin(year, 0, YEARS - 1) || !isWithin(what, 0, 1)) {
            throw new IllegalArgumentException("no such person, year or what");
        }
        int parts = partsLeft(person, year);
        int partsOfDay = partsOfDay(persons.down[person]);
        int divisor = greatestDivisor(parts, partsOfDay);
        return (what == 0 ? parts : partsOfDay) / divisor;
    }

    public boolean absent(int person, int day) throws IllegalArgumentException, IndexOutOfBoundsException {
        if (!persons.has(person)) {
            throw new IllegalArgumentException("no such person");
        }
        if (!isDay(day)) {
            throw new IndexOutOfBoundsException("no such day");
        }
        return holds(asks.absentOn(day), person);
    }

    public int present(int crew, int day) throws IllegalArgumentException, IndexOutOfBoundsException {
        if (!crews.has(crew)) {
            throw new IllegalArgumentException("no such crew");
        }
        if (!isDay(day)) {
            throw new IndexOutOfBoundsException("no such day");
        }
        return Integer.bitCount((crews.members[crew] & atWorkOn(day)) | calls.comeTo(crew, day));
    }

    public int held(int i, int what) throws IllegalArgumentException {
        if (!heldRows.has(i)) {
            throw new IllegalArgumentException("no such row");
        }
        switch (what) {
            case 0:
                return heldRows.ask[i];
            case 1:
                return heldRows.day[i];
            case 2:
                return heldRows.crew[i];
            default:
                throw new IllegalArgumentException("no such what");
        }
    }

    public void bar(int person, int skill, int until) throws IllegalArgumentException, IndexOutOfBoundsException {
        if (!persons.has(person) || !isWithin(skill, 0, SKILLS - 1)) {
            throw new IllegalArgumentException("no such person or skill");
        }
        if (!isDay(until)) {
            throw new IndexOutOfBoundsException("no such day");
        }
        persons.barredBefore[person * SKILLS + skill] = until;
    }

    public void patience(int hours) throws IndexOutOfBoundsException {
        if (!isWithin(hours, 1, MOST_PATIENCE)) {
            throw new IndexOutOfBoundsException("hours");
        }
        patienceHours = hours;
    }

    public int call(int crew, int day)
            throws IllegalArgumentException, IndexOutOfBoundsException, UnsupportedOperationException {
        if (!crews.has(crew)) {
            throw new IllegalArgumentException("no such crew");
        }
        if (!isDay(day) || day < hour / HOURS_OF_DAY) {
            throw new IndexOutOfBoundsException("no such day, or it is over");
        }
        if (calls.count >= MOST_CALLS) {
            throw new UnsupportedOperationException("no room for a call");
        }
        int call = calls.add(crew, day);
        askNext(call);
        return call;
    }

    public int answer(int call, boolean yes) throws IllegalArgumentException, IllegalStateException {
        if (!calls.has(call)) {
            throw new IllegalArgumentException("no such call");
        }
        if (calls.state[call] != WAITS) {
            throw new IllegalStateException("it does not wait");
        }
        if (yes) {
            calls.fill(call);
        } else {
            askNext(call);
        }
        return calls.state[call];
    }

    public int callAt(int call, int what) throws IllegalArgumentException {
        if (!calls.has(call)) {
            throw new IllegalArgumentException("no such call");
        }
        switch (what) {
            case 0:
                return calls.state[call];
            case 1:
                return calls.person[call];
            case 2:
                return Integer.bitCount(calls.wereAsked[call]);
            case 3:
                return calls.nextAt[call];
            default:
                throw new IllegalArgumentException("no such what");
        }
    }

    public int asked(int person) throws IllegalArgumentException {
        if (!persons.has(person)) {
            throw new IllegalArgumentException("no such person");
        }
        return persons.timesAsked[person];
    }

    public int tick(int hours) throws IndexOutOfBoundsException {
        if (!isWithin(hours, 1, MOST_HOURS_OF_TICK) || hours > LAST_HOUR - hour) {
            throw new IndexOutOfBoundsException("hours");
        }
        int end = hour + hours;
        int wentOn = 0;
        // Hours at which no call goes on are left out; at most one round is needed for each of the others.
        for (int round = 0; round < hours; round++) {
            int next = calls.earliestNextAt();
            if (next == NONE || next > end) {
                break;
            }
            hour = next;
            wentOn += goOnWithoutAnswer();
        }
        hour = end;
        return wentOn;
    }

    // ---- what is left

    /**
     * Earned days have the divisor 365 * down and half days the divisor 2, so in parts of which this many make
     * a day all that is earned, taken and carried is a whole number.
     */
    private static int partsOfDay(int down) {
        return 2 * DAYS_OF_YEAR * down;
    }

    private static int partsOfHalfDay(int down) {
        return DAYS_OF_YEAR * down;
    }

    /** What is earned in a year less what is taken then and the further half days, without what is carried. */
    private int partsOfYear(int up, int down, int person, int year, int furtherHalfDays) {
        int taken = halfDaysOfHoliday(person, year) + furtherHalfDays;
        return 2 * up * persons.daysThere(person, year) - partsOfHalfDay(down) * taken;
    }

    private int partsCarried(int down, int partsOfFirstYear) {
        return Math.max(0, Math.min(partsOfFirstYear, carryDays * partsOfDay(down)));
    }

    private int partsLeft(int person, int year) {
        int up = persons.up[person];
        int down = persons.down[person];
        int first = partsOfYear(up, down, person, 0, 0);
        if (year == 0) {
            return first;
        }
        return partsOfYear(up, down, person, 1, 0) + partsCarried(down, first);
    }

    /** Looks at both years for an ask of one, since what is taken in the first year is not carried to the second. */
    private boolean isEnough(int up, int down, int person, int furtherInFirst, int furtherInSecond) {
        int first = partsOfYear(up, down, person, 0, furtherInFirst);
        int second = partsOfYear(up, down, person, 1, furtherInSecond);
        return first >= 0 && second + partsCarried(down, first) >= 0;
    }

    private boolean isEnoughFor(int person, int from, int to, int halves) {
        int further = calendar.halfDays(from, to, halves);
        int inFirst = yearOf(from) == 0 ? further : 0;
        return isEnough(persons.up[person], persons.down[person], person, inFirst, further - inFirst);
    }

    private int halfDaysOf(int ask) {
        return calendar.halfDays(asks.from[ask], asks.to[ask], asks.halves[ask]);
    }

    private int halfDaysOfHoliday(int person, int year) {
        int sum = 0;
        for (int ask = 0; ask < asks.count; ask++) {
            if (asks.takesFromBudget(ask) && asks.person[ask] == person && yearOf(asks.from[ask]) == year) {
                sum += halfDaysOf(ask);
            }
        }
        return sum;
    }

    // ---- who is there, and what is held

    private boolean isAbove(int who, int person) {
        return persons.rank[who] > persons.rank[person];
    }

    private int atWorkOn(int day) {
        return persons.thereOn(day) & ~asks.absentOn(day);
    }

    private int firstDayLeftShort(int ask) {
        for (int day = asks.from[ask]; day <= asks.to[ask]; day++) {
            boolean wouldBeMissed = calendar.isWorkingDay(day)
                    && !isHalf(day, asks.from[ask], asks.to[ask], asks.halves[ask]);
            if (wouldBeMissed && crewLeftShort(asks.person[ask], day) != NONE) {
                return day;
            }
        }
        return NONE;
    }

    /** The lowest crew that would have fewer present than its least if the person were absent that day too. */
    private int crewLeftShort(int person, int day) {
        int atWork = atWorkOn(day);
        if (!holds(atWork, person)) {
            return NONE;
        }
        for (int crew = 0; crew < crews.count; crew++) {
            if (!holds(crews.members[crew], person)) {
                continue;
            }
            int come = calls.comeTo(crew, day);
            int presentWithout = (crews.members[crew] & atWork & ~only(person)) | come;
            // Who comes to the crew by a call counts as present, absent or not, and leaves no gap.
            if (!holds(come, person) && Integer.bitCount(presentWithout) < crews.least[crew]) {
                return crew;
            }
        }
        return NONE;
    }

    // ---- calls

    private void askNext(int call) {
        int next = nextToAsk(call);
        if (next == NONE) {
            calls.fail(call);
        } else {
            persons.timesAsked[next]++;
            calls.waitFor(call, next, hour + patienceHours);
        }
    }

    private int nextToAsk(int call) {
        int crew = calls.crew[call];
        int day = calls.day[call];
        int canBeAsked = atWorkOn(day) & ~crews.members[crew] & ~calls.engagedOn(day) & ~calls.wereAsked[call];
        int best = NONE;
        for (int person = 0; person < persons.count; person++) {
            if (holds(canBeAsked, person) && persons.haveSkills(person, crews.skills[crew], day)
                    && (best == NONE || persons.goesBefore(person, best))) {
                best = person;
            }
        }
        return best;
    }

    private int goOnWithoutAnswer() {
        int wentOn = 0;
        for (int call = 0; call < calls.count; call++) {
            if (calls.state[call] == WAITS && calls.nextAt[call] <= hour) {
                askNext(call);
                wentOn++;
            }
        }
        return wentOn;
    }

    // ---- ranges, days, sets of bits, numbers

    private static boolean isWithin(int number, int lowest, int highest) {
        return number >= lowest && number <= highest;
    }

    private static boolean isDay(int day) {
        return isWithin(day, 0, DAYS - 1);
    }

    private static boolean isSpan(int from, int to) {
        return isDay(from) && isDay(to) && from <= to;
    }

    private static int yearOf(int day) {
        return day / DAYS_OF_YEAR;
    }

    private static boolean areHalves(int halves, int from, int to) {
        return isWithin(halves, 0, BOTH_ARE_HALF) && !(halves == BOTH_ARE_HALF && from == to);
    }

    private static boolean isHalf(int day, int from, int to, int halves) {
        return day == from && (halves & FIRST_IS_HALF) != 0 || day == to && (halves & LAST_IS_HALF) != 0;
    }

    private static int only(int number) {
        return 1 << number;
    }

    private static boolean holds(int bits, int number) {
        return (bits & only(number)) != 0;
    }

    private static int greatestDivisor(int parts, int partsOfDay) {
        int larger = Math.abs(parts);
        int smaller = partsOfDay;
        for (int step = 0; step < MOST_STEPS_TO_DIVISOR && smaller > 0; step++) {
            int rest = larger % smaller;
            larger = smaller;
            smaller = rest;
        }
        return Math.max(1, larger);
    }

    private static final class Calendar {
        final boolean[] isHoliday = new boolean[DAYS];

        boolean isWorkingDay(int day) {
            return day % DAYS_OF_WEEK < FIRST_FREE_WEEKDAY && !isHoliday[day];
        }

        int workingDays(int from, int to) {
            int sum = 0;
            for (int day = from; day <= to; day++) {
                if (isWorkingDay(day)) {
                    sum++;
                }
            }
            return sum;
        }

        int halfDays(int from, int to, int halves) {
            int sum = 0;
            for (int day = from; day <= to; day++) {
                if (isWorkingDay(day)) {
                    sum += isHalf(day, from, to, halves) ? 1 : 2;
                }
            }
            return sum;
        }
    }

    private static final class Persons {
        int count = 0;
        final int[] skills = new int[MOST_PERSONS];
        final int[] rank = new int[MOST_PERSONS];
        final int[] since = new int[MOST_PERSONS];
        final int[] up = new int[MOST_PERSONS];
        final int[] down = new int[MOST_PERSONS];
        final int[] timesAsked = new int[MOST_PERSONS];
        final int[] barredBefore = new int[MOST_PERSONS * SKILLS];

        boolean has(int person) {
            return isWithin(person, 0, count - 1);
        }

        int add(int skillsOfNew, int rankOfNew, int sinceOfNew) {
            skills[count] = skillsOfNew;
            rank[count] = rankOfNew;
            since[count] = sinceOfNew;
            down[count] = 1;
            count++;
            return count - 1;
        }

        int daysThere(int person, int year) {
            int end = (year + 1) * DAYS_OF_YEAR;
            return Math.max(0, Math.min(DAYS_OF_YEAR, end - since[person]));
        }

        int thereOn(int day) {
            int bits = 0;
            for (int person = 0; person < count; person++) {
                if (since[person] <= day) {
                    bits |= only(person);
                }
            }
            return bits;
        }

        boolean haveSkills(int person, int wanted, int day) {
            int usable = skills[person];
            for (int skill = 0; skill < SKILLS; skill++) {
                if (day < barredBefore[person * SKILLS + skill]) {
                    usable &= ~only(skill);
                }
            }
            return (usable & wanted) == wanted;
        }

        /** For persons in the order of their numbers: of equal ones the one found first stays. */
        boolean goesBefore(int person, int best) {
            if (rank[person] != rank[best]) {
                return rank[person] > rank[best];
            }
            return timesAsked[person] < timesAsked[best];
        }
    }

    private static final class Crews {
        int count = 0;
        final int[] skills = new int[MOST_CREWS];
        final int[] least = new int[MOST_CREWS];
        final int[] members = new int[MOST_CREWS];

        boolean has(int crew) {
            return isWithin(crew, 0, count - 1);
        }

        int add(int skillsOfNew, int leastOfNew) {
            skills[count] = skillsOfNew;
            least[count] = leastOfNew;
            count++;
            return count - 1;
        }
    }

    private static final class Asks {
        int count = 0;
        final int[] person = new int[MOST_ASKS];
        final int[] kind = new int[MOST_ASKS];
        final int[] from = new int[MOST_ASKS];
        final int[] to = new int[MOST_ASKS];
        final int[] halves = new int[MOST_ASKS];
        final int[] state = new int[MOST_ASKS];
        final int[] firstStepBy = new int[MOST_ASKS];

        boolean has(int ask) {
            return isWithin(ask, 0, count - 1);
        }

        int add(int personOfNew, int kindOfNew, int fromOfNew, int toOfNew, int halvesOfNew) {
            person[count] = personOfNew;
            kind[count] = kindOfNew;
            from[count] = fromOfNew;
            to[count] = toOfNew;
            halves[count] = halvesOfNew;
            state[count] = kindOfNew == ILLNESS ? GRANTED : ASKED;
            firstStepBy[count] = NONE;
            count++;
            return count - 1;
        }

        boolean overlap(int personOfNew, int fromOfNew, int toOfNew) {
            for (int ask = 0; ask < count; ask++) {
                if (person[ask] == personOfNew && state[ask] != WITHDRAWN
                        && from[ask] <= toOfNew && fromOfNew <= to[ask]) {
                    return true;
                }
            }
            return false;
        }

        boolean isOpen(int ask) {
            return state[ask] == ASKED || state[ask] == FIRST_STEP;
        }

        boolean isBeforeLastStep(int ask) {
            return kind[ask] == DUTY || state[ask] == FIRST_STEP;
        }

        void makeFirstStep(int ask, int who) {
            firstStepBy[ask] = who;
            state[ask] = FIRST_STEP;
        }

        void makeLastStep(int ask, int who) {
            if (firstStepBy[ask] == NONE) {
                firstStepBy[ask] = who;
            }
            state[ask] = GRANTED;
        }

        boolean takesFromBudget(int ask) {
            return kind[ask] == HOLIDAY && state[ask] != WITHDRAWN;
        }

        int absentOn(int day) {
            int bits = 0;
            for (int ask = 0; ask < count; ask++) {
                if (state[ask] == GRANTED && from[ask] <= day && day <= to[ask]
                        && !isHalf(day, from[ask], to[ask], halves[ask])) {
                    bits |= only(person[ask]);
                }
            }
            return bits;
        }
    }

    private static final class HeldRows {
        int count = 0;
        final int[] ask = new int[MOST_HELD];
        final int[] day = new int[MOST_HELD];
        final int[] crew = new int[MOST_HELD];

        boolean has(int row) {
            return isWithin(row, 0, count - 1);
        }

        void keep(int heldAsk, int shortDay, int shortCrew) {
            if (count < MOST_HELD) {
                ask[count] = heldAsk;
                day[count] = shortDay;
                crew[count] = shortCrew;
                count++;
            }
        }
    }

    private static final class Calls {
        int count = 0;
        final int[] crew = new int[MOST_CALLS];
        final int[] day = new int[MOST_CALLS];
        final int[] state = new int[MOST_CALLS];
        final int[] person = new int[MOST_CALLS];
        final int[] wereAsked = new int[MOST_CALLS];
        final int[] nextAt = new int[MOST_CALLS];

        boolean has(int call) {
            return isWithin(call, 0, count - 1);
        }

        int add(int crewOfNew, int dayOfNew) {
            crew[count] = crewOfNew;
            day[count] = dayOfNew;
            state[count] = WAITS;
            person[count] = NONE;
            nextAt[count] = NONE;
            count++;
            return count - 1;
        }

        void waitFor(int call, int next, int until) {
            person[call] = next;
            wereAsked[call] |= only(next);
            nextAt[call] = until;
        }

        void fill(int call) {
            state[call] = FILLED;
            nextAt[call] = NONE;
        }

        void fail(int call) {
            state[call] = FAILED;
            person[call] = NONE;
            nextAt[call] = NONE;
        }

        int comeTo(int crewOfCall, int dayOfCall) {
            int bits = 0;
            for (int call = 0; call < count; call++) {
                if (state[call] == FILLED && crew[call] == crewOfCall && day[call] == dayOfCall) {
                    bits |= only(person[call]);
                }
            }
            return bits;
        }

        /** Who comes by a call on the day, or is asked by one for it; a call that failed has no person. */
        int engagedOn(int dayOfCall) {
            int bits = 0;
            for (int call = 0; call < count; call++) {
                if (day[call] == dayOfCall && person[call] != NONE) {
                    bits |= only(person[call]);
                }
            }
            return bits;
        }

        int earliestNextAt() {
            int earliest = NONE;
            for (int call = 0; call < count; call++) {
                if (nextAt[call] != NONE && (earliest == NONE || nextAt[call] < earliest)) {
                    earliest = nextAt[call];
                }
            }
            return earliest;
        }
    }
}
