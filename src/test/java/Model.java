import java.math.BigInteger;
import java.util.ArrayList;
import java.util.HashSet;
import java.util.List;
import java.util.Set;
import java.util.TreeSet;

/**
 * The document once more, word by word and without a thought of speed: days and hours are gone through one by one,
 * fractions are fractions of big integers. ModelTest compares its answers with those of AbsenceRows.
 */
final class Model {
    private record Fraction(BigInteger up, BigInteger down) {
        static Fraction of(long up, long down) {
            BigInteger a = BigInteger.valueOf(up);
            BigInteger b = BigInteger.valueOf(down);
            BigInteger divisor = a.gcd(b);
            return new Fraction(a.divide(divisor), b.divide(divisor));
        }

        private static Fraction lowest(BigInteger up, BigInteger down) {
            BigInteger divisor = up.gcd(down);
            return new Fraction(up.divide(divisor), down.divide(divisor));
        }

        Fraction plus(Fraction other) {
            return lowest(up.multiply(other.down).add(other.up.multiply(down)), down.multiply(other.down));
        }

        Fraction minus(Fraction other) {
            return plus(new Fraction(other.up.negate(), other.down));
        }

        Fraction times(Fraction other) {
            return lowest(up.multiply(other.up), down.multiply(other.down));
        }

        boolean isBelow(Fraction other) {
            return minus(other).up.signum() < 0;
        }
    }

    private static final Fraction NOTHING = Fraction.of(0, 1);

    private static final class Person {
        int number;
        int skills;
        int rank;
        int since;
        Fraction budget = NOTHING;
        int asked;
        int[] barredBefore = new int[8];
    }

    private static final class Crew {
        int skills;
        int least;
        Set<Person> members = new HashSet<>();
    }

    private static final class Ask {
        int number;
        Person person;
        int kind;
        Set<Integer> fullDays = new TreeSet<>();
        Set<Integer> halfDays = new TreeSet<>();
        int year;
        int state;
        Person first;

        boolean hasDay(int day) {
            return fullDays.contains(day) || halfDays.contains(day);
        }
    }

    private static final class Call {
        Crew crew;
        int day;
        int state;
        Person person;
        List<Person> wereAsked = new ArrayList<>();
        int patience;
        int askedAt;
    }

    private final Set<Integer> holidays = new HashSet<>();
    private final List<Person> persons = new ArrayList<>();
    private final List<Crew> crews = new ArrayList<>();
    private final List<Ask> asks = new ArrayList<>();
    private final List<int[]> held = new ArrayList<>();
    private final List<Call> calls = new ArrayList<>();
    private int carry = 0;
    private int patience = 2;
    private int hour = 0;

    int person(int skills, int rank, int since) {
        range(skills, 0, 255);
        range(rank, 0, 9);
        range(since, 0, 729);
        room(persons, 20);
        Person person = new Person();
        person.number = persons.size();
        person.skills = skills;
        person.rank = rank;
        person.since = since;
        persons.add(person);
        return person.number;
    }

    void budget(int person, int up, int down) {
        Person p = known(persons, person);
        range(up, 0, 400);
        range(down, 1, 12);
        Fraction before = p.budget;
        p.budget = Fraction.of(up, down);
        if (somethingIsBelowNothing(p)) {
            p.budget = before;
            throw new IllegalStateException();
        }
    }

    void carry(int days) {
        range(days, 0, 100);
        state(days >= carry);
        carry = days;
    }

    void holiday(int day) {
        range(day, 0, 729);
        state(holidays.add(day));
    }

    int working(int from, int to) {
        range(from, 0, 729);
        range(to, from, 729);
        int sum = 0;
        for (int day = from; day <= to; day++) {
            sum += isWorking(day) ? 1 : 0;
        }
        return sum;
    }

    int crew(int skills, int least) {
        range(skills, 0, 255);
        range(least, 0, 20);
        room(crews, 6);
        Crew crew = new Crew();
        crew.skills = skills;
        crew.least = least;
        crews.add(crew);
        return crews.size() - 1;
    }

    int member(int crew, int person, boolean on) {
        Set<Person> members = known(crews, crew).members;
        Person p = known(persons, person);
        state(on ? members.add(p) : members.remove(p));
        return members.size();
    }

    int ask(int person, int kind, int from, int to, int halves) {
        Person p = known(persons, person);
        number(kind, 3);
        range(from, 0, 729);
        range(to, from, from < 365 ? 364 : 729);
        range(halves, 0, from == to ? 2 : 3);
        Ask ask = new Ask();
        ask.number = asks.size();
        ask.person = p;
        ask.kind = kind;
        ask.year = from < 365 ? 0 : 1;
        ask.state = kind == 1 ? 2 : 0;
        for (int day = from; day <= to; day++) {
            boolean half = day == from && (halves == 1 || halves == 3) || day == to && (halves == 2 || halves == 3);
            (half ? ask.halfDays : ask.fullDays).add(day);
            for (Ask other : asks) {
                state(other.person != p || other.state == 3 || !other.hasDay(day));
            }
        }
        asks.add(ask);
        boolean tooMuch = kind == 0 && somethingIsBelowNothing(p);
        asks.remove(ask.number);
        state(!tooMuch);
        room(asks, 80);
        asks.add(ask);
        return ask.number;
    }

    int grant(int ask, int who) {
        Ask a = known(asks, ask);
        Person p = known(persons, who);
        state(a.state == 0 || a.state == 1);
        state(p.rank > a.person.rank);
        state(p != a.first);
        if (a.kind == 0 && a.state == 0) {
            a.first = p;
            a.state = 1;
            return 1;
        }
        for (int day : a.fullDays) {
            for (int crew = 0; crew < crews.size(); crew++) {
                if (isWorking(day) && wouldBeShort(a, crews.get(crew), day)) {
                    if (held.size() < 100) {
                        held.add(new int[] {ask, day, crew});
                    }
                    return 0;
                }
            }
        }
        if (a.first == null) {
            a.first = p;
        }
        a.state = 2;
        return 2;
    }

    private boolean wouldBeShort(Ask ask, Crew crew, int day) {
        Person person = ask.person;
        boolean isMissed = crew.members.contains(person) && person.since <= day && !isAbsent(person, day)
            && !comesTo(crew, day).contains(person);
        if (!isMissed) {
            return false;
        }
        int before = ask.state;
        ask.state = 2;
        boolean isShort = presentOf(crew, day).size() < crew.least;
        ask.state = before;
        return isShort;
    }

    int withdraw(int ask) {
        Ask a = known(asks, ask);
        state(a.state != 3);
        a.state = 3;
        return halfDays(a);
    }

    int askAt(int ask, int what) {
        Ask a = known(asks, ask);
        number(what, 5);
        int first = a.first == null ? -1 : a.first.number;
        return new int[] {a.state, halfDays(a), first, a.person.number, a.kind}[what];
    }

    int left(int person, int year, int what) {
        Person p = known(persons, person);
        number(year, 2);
        number(what, 2);
        Fraction left = leftOf(p, year);
        return (what == 0 ? left.up : left.down).intValueExact();
    }

    boolean absent(int person, int day) {
        Person p = known(persons, person);
        range(day, 0, 729);
        return isAbsent(p, day);
    }

    int present(int crew, int day) {
        Crew c = known(crews, crew);
        range(day, 0, 729);
        return presentOf(c, day).size();
    }

    int held(int i, int what) {
        int[] row = known(held, i);
        number(what, 3);
        return row[what];
    }

    void bar(int person, int skill, int until) {
        Person p = known(persons, person);
        number(skill, 8);
        range(until, 0, 729);
        p.barredBefore[skill] = until;
    }

    void patience(int hours) {
        range(hours, 1, 48);
        patience = hours;
    }

    int call(int crew, int day) {
        Crew c = known(crews, crew);
        range(day, 0, 729);
        range(day * 24 + 23, hour, 17519);
        room(calls, 60);
        Call call = new Call();
        call.crew = c;
        call.day = day;
        calls.add(call);
        askNext(call);
        return calls.size() - 1;
    }

    int answer(int call, boolean yes) {
        Call c = known(calls, call);
        state(c.state == 0);
        if (yes) {
            c.state = 1;
        } else {
            askNext(c);
        }
        return c.state;
    }

    int callAt(int call, int what) {
        Call c = known(calls, call);
        number(what, 4);
        int person = c.person == null ? -1 : c.person.number;
        int next = c.state == 0 ? c.askedAt + c.patience : -1;
        return new int[] {c.state, person, c.wereAsked.size(), next}[what];
    }

    int asked(int person) {
        return known(persons, person).asked;
    }

    int tick(int hours) {
        range(hours, 1, 2000);
        range(hour + hours, 0, 17519);
        int count = 0;
        for (int i = 0; i < hours; i++) {
            hour++;
            for (Call call : calls) {
                if (call.state == 0 && call.askedAt + call.patience == hour) {
                    askNext(call);
                    count++;
                }
            }
        }
        return count;
    }

    private boolean isWorking(int day) {
        return day % 7 != 5 && day % 7 != 6 && !holidays.contains(day);
    }

    private int halfDays(Ask ask) {
        int sum = 0;
        for (int day : ask.fullDays) {
            sum += isWorking(day) ? 2 : 0;
        }
        for (int day : ask.halfDays) {
            sum += isWorking(day) ? 1 : 0;
        }
        return sum;
    }

    private Fraction leftOf(Person person, int year) {
        int days = 0;
        for (int day = year * 365; day < (year + 1) * 365; day++) {
            days += day >= person.since ? 1 : 0;
        }
        Fraction left = person.budget.times(Fraction.of(days, 365));
        if (year == 1) {
            Fraction before = leftOf(person, 0);
            Fraction most = Fraction.of(carry, 1);
            Fraction carried = most.isBelow(before) ? most : before;
            left = left.plus(carried.isBelow(NOTHING) ? NOTHING : carried);
        }
        for (Ask ask : asks) {
            if (ask.person == person && ask.kind == 0 && ask.year == year && ask.state != 3) {
                left = left.minus(Fraction.of(halfDays(ask), 2));
            }
        }
        return left;
    }

    private boolean somethingIsBelowNothing(Person person) {
        return leftOf(person, 0).isBelow(NOTHING) || leftOf(person, 1).isBelow(NOTHING);
    }

    private boolean isAbsent(Person person, int day) {
        for (Ask ask : asks) {
            if (ask.person == person && ask.state == 2 && ask.fullDays.contains(day)) {
                return true;
            }
        }
        return false;
    }

    private Set<Person> comesTo(Crew crew, int day) {
        Set<Person> come = new HashSet<>();
        for (Call call : calls) {
            if (call.state == 1 && call.crew == crew && call.day == day) {
                come.add(call.person);
            }
        }
        return come;
    }

    private Set<Person> presentOf(Crew crew, int day) {
        Set<Person> present = comesTo(crew, day);
        for (Person person : crew.members) {
            if (person.since <= day && !isAbsent(person, day)) {
                present.add(person);
            }
        }
        return present;
    }

    private void askNext(Call call) {
        Person best = null;
        for (Person person : persons) {
            if (canBeAsked(person, call) && (best == null || person.rank > best.rank
                || person.rank == best.rank && person.asked < best.asked)) {
                best = person;
            }
        }
        call.person = best;
        if (best == null) {
            call.state = 2;
            return;
        }
        best.asked++;
        call.wereAsked.add(best);
        call.askedAt = hour;
        call.patience = patience;
    }

    private boolean canBeAsked(Person person, Call call) {
        for (Call other : calls) {
            if (other != call && other.day == call.day && other.state != 2 && other.person == person) {
                return false;
            }
        }
        for (int skill = 0; skill < 8; skill++) {
            boolean wanted = (call.crew.skills >> skill & 1) == 1;
            boolean has = (person.skills >> skill & 1) == 1 && call.day >= person.barredBefore[skill];
            if (wanted && !has) {
                return false;
            }
        }
        return person.since <= call.day && !call.crew.members.contains(person) && !isAbsent(person, call.day)
            && !call.wereAsked.contains(person);
    }

    private static <T> T known(List<T> list, int number) {
        number(number, list.size());
        return list.get(number);
    }

    private static void number(int number, int count) {
        if (number < 0 || number >= count) {
            throw new IllegalArgumentException();
        }
    }

    private static void range(int number, int lowest, int highest) {
        if (number < lowest || number > highest) {
            throw new IndexOutOfBoundsException();
        }
    }

    private static void state(boolean right) {
        if (!right) {
            throw new IllegalStateException();
        }
    }

    private static void room(List<?> list, int most) {
        if (list.size() >= most) {
            throw new UnsupportedOperationException();
        }
    }
}
