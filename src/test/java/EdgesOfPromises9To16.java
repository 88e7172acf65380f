/** Boundary cases of the promises 9 to 16: ask, grant, withdraw, askAt, left, absent, present, held. */
final class EdgesOfPromises9To16 {
    private EdgesOfPromises9To16() {
    }

    static void run() {
        ask();
        askRanges();
        askStates();
        grant();
        grantStates();
        withdraw();
        askAt();
        left();
        absent();
        present();
        held();
    }

    private static void ask() {
        Edges.of("Promise 9", "Asks: its number.",
            "0 first, then one more each, of whatever person; a refused one takes none", """
            person(0, 0, 0) = 0
            person(0, 0, 0) = 1
            ask(0, 1, 0, 0, 0) = 0
            ask(0, 1, 0, 0, 0) ! IllegalStateException
            ask(1, 1, 0, 0, 0) = 1
            ask(0, 1, 1, 1, 4) ! IndexOutOfBoundsException
            ask(0, 1, 1, 1, 0) = 2
            askAt(2, 0) = 2
            askAt(3, 0) ! IllegalArgumentException
            """);
        Edges.of("Promise 9", "Asks: its number.", "for a day that is over, and before the person is there", """
            person(0, 0, 500) = 0
            tick(1000) = 0
            ask(0, 2, 0, 0, 0) = 0
            ask(0, 1, 499, 499, 0) = 1
            absent(0, 499) = 1
            """);
        Edges.of("Promise 9", "IllegalArgumentException: no such person", "below the first, after the last", """
            ask(0, 1, 0, 0, 0) ! IllegalArgumentException
            person(0, 0, 0) = 0
            ask(-1, 1, 0, 0, 0) ! IllegalArgumentException
            ask(1, 1, 0, 0, 0) ! IllegalArgumentException
            ask(20, 1, 0, 0, 0) ! IllegalArgumentException
            ask(-2147483648, 1, 0, 0, 0) ! IllegalArgumentException
            ask(2147483647, 1, 0, 0, 0) ! IllegalArgumentException
            ask(0, 1, 0, 0, 0) = 0
            """);
        Edges.of("Promise 9", "or kind;", "the first and last that are taken, those beside them", """
            person(0, 0, 0) = 0
            ask(0, -1, 5, 5, 0) ! IllegalArgumentException
            ask(0, 3, 5, 5, 0) ! IllegalArgumentException
            ask(0, -2147483648, 5, 5, 0) ! IllegalArgumentException
            ask(0, 2147483647, 5, 5, 0) ! IllegalArgumentException
            ask(0, 0, 5, 5, 0) = 0
            ask(0, 2, 6, 6, 0) = 1
            """);
        Edges.of("Promise 9", "UnsupportedOperationException: there are 80.",
            "79 leave room for one, 80 for none, of whatever person", """
            person(0, 0, 0) = 0
            person(0, 0, 0) = 1
            """ + Edges.times(79, "ask(0, 1, #, #, 0) = #") + """
            ask(0, 1, 79, 79, 0) = 79
            ask(0, 1, 80, 80, 0) ! UnsupportedOperationException
            ask(1, 1, 0, 0, 0) ! UnsupportedOperationException
            ask(1, 0, 5, 6, 0) ! UnsupportedOperationException
            ask(1, 2, 0, 364, 3) ! UnsupportedOperationException
            absent(1, 0) = 0
            askAt(80, 0) ! IllegalArgumentException
            """);
    }

    private static void askRanges() {
        Edges.of("Promise 9", "IndexOutOfBoundsException: no such days,",
            "the first and last that are taken, those beside them", """
            person(0, 0, 0) = 0
            ask(0, 1, -1, 0, 0) ! IndexOutOfBoundsException
            ask(0, 1, -1, -1, 0) ! IndexOutOfBoundsException
            ask(0, 1, 729, 730, 0) ! IndexOutOfBoundsException
            ask(0, 1, 730, 730, 0) ! IndexOutOfBoundsException
            ask(0, 1, -2147483648, 2147483647, 0) ! IndexOutOfBoundsException
            ask(0, 1, 2147483647, 2147483647, 0) ! IndexOutOfBoundsException
            ask(0, 1, 0, 0, 0) = 0
            ask(0, 1, 729, 729, 0) = 1
            """);
        Edges.of("Promise 9", "the second one below the first,", "one below, the same, one above", """
            person(0, 0, 0) = 0
            ask(0, 1, 8, 7, 0) ! IndexOutOfBoundsException
            ask(0, 1, 8, 8, 0) = 0
            ask(0, 1, 9, 10, 0) = 1
            ask(0, 1, 729, 0, 0) ! IndexOutOfBoundsException
            """);
        Edges.of("Promise 9", "not of one year,", "the last day of year 0 and the first of year 1", """
            person(0, 0, 0) = 0
            ask(0, 1, 364, 365, 0) ! IndexOutOfBoundsException
            ask(0, 1, 0, 729, 0) ! IndexOutOfBoundsException
            ask(0, 1, 363, 364, 0) = 0
            ask(0, 1, 365, 366, 0) = 1
            """);
        Edges.of("Promise 9", "halves (0 .. 3;", "the first and last that are taken, those beside them", """
            person(0, 0, 0) = 0
            ask(0, 1, 0, 1, -1) ! IndexOutOfBoundsException
            ask(0, 1, 0, 1, 4) ! IndexOutOfBoundsException
            ask(0, 1, 0, 1, -2147483648) ! IndexOutOfBoundsException
            ask(0, 1, 0, 1, 2147483647) ! IndexOutOfBoundsException
            ask(0, 1, 0, 0, 4) ! IndexOutOfBoundsException
            ask(0, 1, 0, 1, 0) = 0
            ask(0, 1, 2, 3, 3) = 1
            """);
        Edges.of("Promise 9", "3 of one day);", "3 of one day, of a free one too, 2 of one day, 3 of two days", """
            person(0, 0, 0) = 0
            ask(0, 1, 0, 0, 3) ! IndexOutOfBoundsException
            ask(0, 1, 5, 5, 3) ! IndexOutOfBoundsException
            ask(0, 1, 729, 729, 3) ! IndexOutOfBoundsException
            ask(0, 1, 0, 0, 2) = 0
            ask(0, 1, 1, 2, 3) = 1
            """);
    }

    private static void askStates() {
        String overlap = "IllegalStateException: a day of it is one of another ask of the person that is not"
            + " withdrawn;";
        Edges.of("Promise 9", overlap,
            "its first day, its last, within, around; the days beside it, another person", """
            person(0, 0, 0) = 0
            person(0, 0, 0) = 1
            ask(0, 2, 10, 14, 0) = 0
            ask(0, 2, 9, 10, 0) ! IllegalStateException
            ask(0, 2, 14, 15, 0) ! IllegalStateException
            ask(0, 2, 12, 12, 0) ! IllegalStateException
            ask(0, 2, 10, 14, 0) ! IllegalStateException
            ask(0, 2, 9, 15, 0) ! IllegalStateException
            ask(1, 2, 10, 14, 0) = 1
            ask(0, 2, 8, 9, 0) = 2
            ask(0, 2, 15, 16, 0) = 3
            """);
        Edges.of("Promise 9", overlap, "also when both days are half ones, and in each state but withdrawn", """
            person(0, 0, 0) = 0
            person(0, 1, 0) = 1
            person(0, 1, 0) = 2
            budget(0, 1, 1)
            ask(0, 0, 0, 0, 1) = 0
            ask(0, 1, 0, 0, 2) ! IllegalStateException
            grant(0, 1) = 1
            ask(0, 1, 0, 0, 2) ! IllegalStateException
            grant(0, 2) = 2
            ask(0, 1, 0, 0, 2) ! IllegalStateException
            withdraw(0) = 1
            ask(0, 1, 0, 0, 2) = 1
            """);
        Edges.of("Promise 9", "holiday: less would be left of a year than 0;",
            "exactly 0 may be left, half a day less may not", """
            person(0, 0, 0) = 0
            budget(0, 3, 2)
            ask(0, 0, 0, 1, 0) ! IllegalStateException
            left(0, 0, 0) = 3
            left(0, 0, 1) = 2
            ask(0, 0, 0, 1, 1) = 0
            left(0, 0, 0) = 0
            ask(0, 0, 2, 2, 1) ! IllegalStateException
            ask(0, 0, 5, 6, 0) = 1
            ask(0, 1, 2, 2, 1) = 2
            ask(0, 2, 3, 3, 0) = 3
            ask(0, 0, 371, 372, 2) = 4
            ask(0, 0, 373, 373, 2) ! IllegalStateException
            """);
        Edges.of("Promise 9", "holiday: less would be left of a year than 0;",
            "of a fraction just too small, or just large enough", """
            person(0, 0, 0) = 0
            budget(0, 11, 12)
            ask(0, 0, 0, 0, 0) ! IllegalStateException
            ask(0, 0, 0, 0, 1) = 0
            left(0, 0, 0) = 5
            left(0, 0, 1) = 12
            ask(0, 0, 1, 1, 1) ! IllegalStateException
            budget(0, 12, 12)
            ask(0, 0, 1, 1, 1) = 1
            left(0, 0, 0) = 0
            """);
        Edges.of("Promise 9", "holiday: less would be left of a year than 0;",
            "in year 0, when year 1 needs what is carried", """
            person(0, 0, 0) = 0
            budget(0, 5, 1)
            carry(3)
            ask(0, 0, 371, 380, 0) = 0
            left(0, 1, 0) = 0
            ask(0, 0, 0, 2, 0) ! IllegalStateException
            ask(0, 0, 0, 2, 1) ! IllegalStateException
            left(0, 0, 0) = 5
            ask(0, 0, 0, 1, 0) = 1
            left(0, 0, 0) = 3
            left(0, 1, 0) = 0
            ask(0, 0, 7, 7, 1) ! IllegalStateException
            """);
    }

    private static void grant() {
        Edges.of("Promise 10", "A step: what the ask is then (1, 2);",
            "the first and the second of holiday, the one of duty", """
            person(0, 0, 0) = 0
            person(0, 1, 0) = 1
            person(0, 1, 0) = 2
            budget(0, 1, 1)
            ask(0, 0, 0, 0, 0) = 0
            ask(0, 2, 1, 1, 0) = 1
            grant(0, 1) = 1
            askAt(0, 0) = 1
            grant(0, 2) = 2
            askAt(0, 0) = 2
            grant(1, 2) = 2
            askAt(1, 0) = 2
            """);
        Edges.of("Promise 10", "0 when it is held.", "each time anew, until it is not held any more", """
            person(0, 0, 0) = 0
            person(0, 1, 0) = 1
            crew(0, 1) = 0
            member(0, 0, true) = 1
            ask(0, 2, 0, 0, 0) = 0
            grant(0, 1) = 0
            grant(0, 1) = 0
            held(1, 0) = 0
            held(2, 0) ! IllegalArgumentException
            askAt(0, 0) = 0
            member(0, 1, true) = 2
            grant(0, 1) = 2
            held(2, 0) ! IllegalArgumentException
            """);
        Edges.of("Promise 10", "IllegalArgumentException: no such ask", "below the first, after the last", """
            person(0, 0, 0) = 0
            person(0, 1, 0) = 1
            grant(0, 1) ! IllegalArgumentException
            ask(0, 2, 0, 0, 0) = 0
            grant(-1, 1) ! IllegalArgumentException
            grant(1, 1) ! IllegalArgumentException
            grant(80, 1) ! IllegalArgumentException
            grant(-2147483648, 1) ! IllegalArgumentException
            grant(2147483647, 1) ! IllegalArgumentException
            grant(0, 1) = 2
            """);
        Edges.of("Promise 10", "or person;", "below the first, after the last", """
            person(0, 0, 0) = 0
            person(0, 1, 0) = 1
            ask(0, 2, 0, 0, 0) = 0
            grant(0, -1) ! IllegalArgumentException
            grant(0, 2) ! IllegalArgumentException
            grant(0, 20) ! IllegalArgumentException
            grant(0, -2147483648) ! IllegalArgumentException
            grant(0, 2147483647) ! IllegalArgumentException
            askAt(0, 0) = 0
            grant(0, 1) = 2
            """);
    }

    private static void grantStates() {
        Edges.of("Promise 10", "IllegalStateException: it is granted or withdrawn,",
            "each kind when it is granted, each state withdrawn", """
            person(0, 0, 0) = 0
            person(0, 9, 0) = 1
            person(0, 9, 0) = 2
            person(0, 9, 0) = 3
            budget(0, 3, 1)
            ask(0, 0, 0, 0, 0) = 0
            ask(0, 1, 1, 1, 0) = 1
            ask(0, 2, 2, 2, 0) = 2
            ask(0, 0, 3, 3, 0) = 3
            ask(0, 0, 4, 4, 0) = 4
            grant(0, 1) = 1
            grant(0, 2) = 2
            grant(0, 3) ! IllegalStateException
            grant(1, 3) ! IllegalStateException
            askAt(1, 2) = -1
            grant(2, 1) = 2
            grant(2, 3) ! IllegalStateException
            askAt(2, 2) = 1
            withdraw(3) = 2
            grant(3, 3) ! IllegalStateException
            askAt(3, 0) = 3
            askAt(3, 2) = -1
            grant(4, 1) = 1
            withdraw(4) = 2
            grant(4, 3) ! IllegalStateException
            askAt(4, 0) = 3
            withdraw(0) = 2
            grant(0, 3) ! IllegalStateException
            """);
        Edges.of("Promise 10", "the rank is not above,",
            "the same person, the same rank, one below; nothing is changed or held", """
            person(0, 5, 0) = 0
            person(0, 5, 0) = 1
            person(0, 4, 0) = 2
            person(0, 6, 0) = 3
            crew(0, 1) = 0
            member(0, 0, true) = 1
            ask(0, 2, 0, 0, 0) = 0
            grant(0, 0) ! IllegalStateException
            grant(0, 1) ! IllegalStateException
            grant(0, 2) ! IllegalStateException
            askAt(0, 0) = 0
            askAt(0, 2) = -1
            held(0, 0) ! IllegalArgumentException
            grant(0, 3) = 0
            held(0, 0) = 0
            """);
        Edges.of("Promise 10", "or the person made the first step.",
            "once and again, also where the step would be held; of another ask", """
            person(0, 0, 0) = 0
            person(0, 1, 0) = 1
            person(0, 1, 0) = 2
            budget(0, 2, 1)
            crew(0, 1) = 0
            member(0, 0, true) = 1
            ask(0, 0, 0, 0, 0) = 0
            ask(0, 0, 1, 1, 0) = 1
            grant(0, 1) = 1
            grant(0, 1) ! IllegalStateException
            held(0, 0) ! IllegalArgumentException
            grant(1, 2) = 1
            grant(0, 2) = 0
            grant(0, 2) = 0
            grant(0, 1) ! IllegalStateException
            member(0, 0, false) = 0
            grant(1, 1) = 2
            askAt(1, 2) = 2
            """);
    }

    private static void withdraw() {
        Edges.of("Promise 11", "An ask is withdrawn: how many half days it took.",
            "none, one, more; its day is free, its holiday is left", """
            person(0, 0, 0) = 0
            budget(0, 3, 1)
            ask(0, 0, 5, 6, 0) = 0
            ask(0, 0, 0, 0, 2) = 1
            ask(0, 0, 1, 2, 0) = 2
            left(0, 0, 0) = 1
            left(0, 0, 1) = 2
            withdraw(0) = 0
            withdraw(1) = 1
            left(0, 0, 0) = 1
            left(0, 0, 1) = 1
            withdraw(2) = 4
            left(0, 0, 0) = 3
            ask(0, 0, 0, 2, 0) = 3
            """);
        Edges.of("Promise 11", "An ask is withdrawn: how many half days it took.",
            "in each state, and the largest of a year", """
            person(0, 0, 0) = 0
            person(0, 1, 0) = 1
            budget(0, 1, 1)
            ask(0, 1, 365, 729, 0) = 0
            ask(0, 0, 0, 0, 0) = 1
            grant(1, 1) = 1
            ask(0, 2, 1, 1, 0) = 2
            withdraw(0) = 522
            withdraw(1) = 2
            withdraw(2) = 2
            absent(0, 365) = 0
            """);
        Edges.of("Promise 11", "IllegalArgumentException: there is none such;",
            "none yet, below the first, after the last", """
            withdraw(0) ! IllegalArgumentException
            person(0, 0, 0) = 0
            ask(0, 1, 0, 0, 0) = 0
            withdraw(-1) ! IllegalArgumentException
            withdraw(1) ! IllegalArgumentException
            withdraw(80) ! IllegalArgumentException
            withdraw(-2147483648) ! IllegalArgumentException
            withdraw(2147483647) ! IllegalArgumentException
            withdraw(0) = 2
            """);
        Edges.of("Promise 11", "IllegalStateException: it was.", "a second time, also one that took nothing", """
            person(0, 0, 0) = 0
            budget(0, 1, 1)
            ask(0, 0, 0, 0, 0) = 0
            ask(0, 1, 5, 5, 0) = 1
            withdraw(0) = 2
            withdraw(0) ! IllegalStateException
            left(0, 0, 0) = 1
            withdraw(1) = 0
            withdraw(1) ! IllegalStateException
            askAt(1, 0) = 3
            """);
    }

    private static void askAt() {
        Edges.of("Promise 12", "Of an ask 0 what it is, 1 how many half days it takes,",
            "none and the most, in the first and the last state", """
            person(0, 0, 0) = 0
            ask(0, 2, 5, 6, 0) = 0
            askAt(0, 0) = 0
            askAt(0, 1) = 0
            ask(0, 1, 365, 729, 0) = 1
            askAt(1, 0) = 2
            askAt(1, 1) = 522
            withdraw(1) = 522
            askAt(1, 0) = 3
            """);
        Edges.of("Promise 12", "2 who made its first step (-1),",
            "nobody yet, person 0, still the same after the second and the withdrawal", """
            person(0, 1, 0) = 0
            person(0, 1, 0) = 1
            person(0, 0, 0) = 2
            budget(2, 1, 1)
            ask(2, 0, 0, 0, 0) = 0
            askAt(0, 2) = -1
            grant(0, 0) = 1
            askAt(0, 2) = 0
            grant(0, 1) = 2
            askAt(0, 2) = 0
            withdraw(0) = 2
            askAt(0, 2) = 0
            ask(2, 1, 1, 1, 0) = 1
            askAt(1, 2) = -1
            ask(2, 2, 2, 2, 0) = 2
            askAt(2, 2) = -1
            grant(2, 1) = 2
            askAt(2, 2) = 1
            """);
        Edges.of("Promise 12", "3 its person, 4 its kind.", "the first and the last of 20, the first kind and the last",
            Edges.times(20, "person(0, 0, 0) = #") + """
            ask(0, 0, 5, 5, 0) = 0
            ask(19, 2, 5, 5, 0) = 1
            askAt(0, 3) = 0
            askAt(0, 4) = 0
            askAt(1, 3) = 19
            askAt(1, 4) = 2
            """);
        Edges.of("Promise 12", "IllegalArgumentException: no such ask", "none yet, below the first, after the last", """
            askAt(0, 0) ! IllegalArgumentException
            person(0, 0, 0) = 0
            ask(0, 1, 0, 0, 0) = 0
            askAt(-1, 0) ! IllegalArgumentException
            askAt(1, 0) ! IllegalArgumentException
            askAt(80, 0) ! IllegalArgumentException
            askAt(-2147483648, 0) ! IllegalArgumentException
            askAt(2147483647, 0) ! IllegalArgumentException
            askAt(0, 0) = 2
            """);
        Edges.of("Promise 12", "or what.", "the first and last that are taken, those beside them", """
            person(0, 0, 0) = 0
            ask(0, 1, 0, 0, 0) = 0
            askAt(0, -1) ! IllegalArgumentException
            askAt(0, 5) ! IllegalArgumentException
            askAt(0, -2147483648) ! IllegalArgumentException
            askAt(0, 2147483647) ! IllegalArgumentException
            askAt(0, 0) = 2
            askAt(0, 4) = 1
            """);
    }

    private static void left() {
        Edges.of("Promise 13", "What is left of a year in lowest terms: what 0 the upper, 1 the lower number.",
            "0, 1, a whole number, and one that is divided by everything it can be", """
            person(0, 0, 0) = 0
            left(0, 0, 0) = 0
            left(0, 0, 1) = 1
            budget(0, 12, 12)
            left(0, 0, 0) = 1
            left(0, 0, 1) = 1
            budget(0, 10, 12)
            left(0, 0, 0) = 5
            left(0, 0, 1) = 6
            budget(0, 400, 12)
            left(0, 0, 0) = 100
            left(0, 0, 1) = 3
            budget(0, 399, 11)
            left(0, 0, 0) = 399
            left(0, 0, 1) = 11
            budget(0, 0, 7)
            left(0, 1, 0) = 0
            left(0, 1, 1) = 1
            """);
        Edges.of("Promise 13", "What is left of a year in lowest terms: what 0 the upper, 1 the lower number.",
            "the largest lower number, and 0 after all is taken", """
            person(0, 0, 353) = 0
            person(0, 0, 363) = 1
            budget(0, 168, 11)
            left(0, 0, 0) = 2016
            left(0, 0, 1) = 4015
            ask(0, 0, 364, 364, 1) = 0
            left(0, 0, 0) = 17
            left(0, 0, 1) = 8030
            budget(1, 365, 4)
            ask(1, 0, 364, 364, 1) = 1
            left(1, 0, 0) = 0
            left(1, 0, 1) = 1
            """);
        Edges.of("Promise 13", "IllegalArgumentException: no such person,",
            "none yet, below the first, after the last", """
            left(0, 0, 0) ! IllegalArgumentException
            person(0, 0, 0) = 0
            left(-1, 0, 0) ! IllegalArgumentException
            left(1, 0, 0) ! IllegalArgumentException
            left(20, 0, 0) ! IllegalArgumentException
            left(-2147483648, 0, 0) ! IllegalArgumentException
            left(2147483647, 0, 0) ! IllegalArgumentException
            left(0, 0, 0) = 0
            """);
        Edges.of("Promise 13", "year", "the first and last that are taken, those beside them", """
            person(0, 0, 0) = 0
            left(0, -1, 0) ! IllegalArgumentException
            left(0, 2, 0) ! IllegalArgumentException
            left(0, -2147483648, 0) ! IllegalArgumentException
            left(0, 2147483647, 0) ! IllegalArgumentException
            left(0, 0, 0) = 0
            left(0, 1, 0) = 0
            """);
        Edges.of("Promise 13", "or what.", "the first and last that are taken, those beside them", """
            person(0, 0, 0) = 0
            left(0, 0, -1) ! IllegalArgumentException
            left(0, 0, 2) ! IllegalArgumentException
            left(0, 1, -2147483648) ! IllegalArgumentException
            left(0, 1, 2147483647) ! IllegalArgumentException
            left(0, 0, 0) = 0
            left(0, 0, 1) = 1
            """);
    }

    private static void absent() {
        Edges.of("Promise 14", "Whether a person is absent on a day.",
            "no ask at all, the only day, the first and last days of all", """
            person(0, 0, 0) = 0
            absent(0, 0) = 0
            absent(0, 729) = 0
            ask(0, 1, 0, 0, 0) = 0
            ask(0, 1, 729, 729, 0) = 1
            absent(0, 0) = 1
            absent(0, 1) = 0
            absent(0, 728) = 0
            absent(0, 729) = 1
            """);
        Edges.of("Promise 14", "IllegalArgumentException: no such person;",
            "none yet, below the first, after the last", """
            absent(0, 0) ! IllegalArgumentException
            person(0, 0, 0) = 0
            absent(-1, 0) ! IllegalArgumentException
            absent(1, 0) ! IllegalArgumentException
            absent(32, 0) ! IllegalArgumentException
            absent(-2147483648, 0) ! IllegalArgumentException
            absent(2147483647, 0) ! IllegalArgumentException
            absent(0, 0) = 0
            """);
        Edges.of("Promise 14", "IndexOutOfBoundsException: no such day.",
            "the first and last that are taken, those beside them", """
            person(0, 0, 0) = 0
            absent(0, -1) ! IndexOutOfBoundsException
            absent(0, 730) ! IndexOutOfBoundsException
            absent(0, -2147483648) ! IndexOutOfBoundsException
            absent(0, 2147483647) ! IndexOutOfBoundsException
            absent(0, 0) = 0
            absent(0, 729) = 0
            """);
    }

    private static void present() {
        Edges.of("Promise 15", "How many of a crew are present on a day.",
            "none, all 20, and more members than there are that day",
            Edges.times(19, "person(0, 0, 0) = #") + """
            person(0, 0, 729) = 19
            crew(0, 0) = 0
            present(0, 0) = 0
            """ + Edges.times(20, "member(0, #, true) = @") + """
            present(0, 0) = 19
            present(0, 728) = 19
            present(0, 729) = 20
            """);
        Edges.of("Promise 15", "IllegalArgumentException: no such crew;",
            "none yet, below the first, after the last", """
            present(0, 0) ! IllegalArgumentException
            crew(0, 0) = 0
            present(-1, 0) ! IllegalArgumentException
            present(1, 0) ! IllegalArgumentException
            present(6, 0) ! IllegalArgumentException
            present(-2147483648, 0) ! IllegalArgumentException
            present(2147483647, 0) ! IllegalArgumentException
            present(0, 0) = 0
            """);
        Edges.of("Promise 15", "IndexOutOfBoundsException: no such day.",
            "the first and last that are taken, those beside them", """
            crew(0, 0) = 0
            present(0, -1) ! IndexOutOfBoundsException
            present(0, 730) ! IndexOutOfBoundsException
            present(0, -2147483648) ! IndexOutOfBoundsException
            present(0, 2147483647) ! IndexOutOfBoundsException
            present(0, 0) = 0
            present(0, 729) = 0
            """);
    }

    private static void held() {
        Edges.of("Promise 16", "Of held row i (0 first) 0 the ask, 1 the day, 2 the crew.",
            "the first row and the second, which differ in all", """
            person(0, 0, 0) = 0
            person(0, 0, 0) = 1
            person(0, 1, 0) = 2
            crew(0, 1) = 0
            crew(0, 1) = 1
            member(0, 1, true) = 1
            member(1, 0, true) = 1
            ask(1, 2, 729, 729, 0) = 0
            ask(0, 2, 3, 3, 0) = 1
            grant(1, 2) = 0
            grant(0, 2) = 0
            held(0, 0) = 1
            held(0, 1) = 3
            held(0, 2) = 1
            held(1, 0) = 0
            held(1, 1) = 729
            held(1, 2) = 0
            """);
        Edges.of("Promise 16", "Of held row i (0 first) 0 the ask, 1 the day, 2 the crew.",
            "a row stays when its ask is granted or withdrawn", """
            person(0, 0, 0) = 0
            person(0, 1, 0) = 1
            crew(0, 1) = 0
            member(0, 0, true) = 1
            ask(0, 2, 3, 3, 0) = 0
            grant(0, 1) = 0
            member(0, 0, false) = 0
            grant(0, 1) = 2
            held(0, 1) = 3
            withdraw(0) = 2
            held(0, 0) = 0
            held(0, 1) = 3
            held(0, 2) = 0
            """);
        Edges.of("Promise 16", "IllegalArgumentException: there is none such,",
            "none yet, below the first, after the last", """
            held(0, 0) ! IllegalArgumentException
            person(0, 0, 0) = 0
            person(0, 1, 0) = 1
            crew(0, 1) = 0
            member(0, 0, true) = 1
            ask(0, 2, 0, 0, 0) = 0
            grant(0, 1) = 0
            held(-1, 0) ! IllegalArgumentException
            held(1, 0) ! IllegalArgumentException
            held(100, 0) ! IllegalArgumentException
            held(-2147483648, 0) ! IllegalArgumentException
            held(2147483647, 0) ! IllegalArgumentException
            held(0, 0) = 0
            """);
        Edges.of("Promise 16", "or no such what.", "the first and last that are taken, those beside them", """
            person(0, 0, 0) = 0
            person(0, 1, 0) = 1
            crew(0, 1) = 0
            member(0, 0, true) = 1
            ask(0, 2, 0, 0, 0) = 0
            grant(0, 1) = 0
            held(0, -1) ! IllegalArgumentException
            held(0, 3) ! IllegalArgumentException
            held(0, -2147483648) ! IllegalArgumentException
            held(0, 2147483647) ! IllegalArgumentException
            held(0, 0) = 0
            held(0, 2) = 0
            """);
    }
}
