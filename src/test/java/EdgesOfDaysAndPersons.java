/** Boundary cases of 'Terms': hours, days, years, persons, what they earn and what is left to them. */
final class EdgesOfDaysAndPersons {
    private static final String TERMS = "Terms";

    private EdgesOfDaysAndPersons() {
    }

    static void run() {
        hours();
        days();
        persons();
        earned();
        left();
    }

    private static void hours() {
        Edges.of(TERMS, "TIME is in hours, 0 .. 17,519;", "the last hour is reached, the one after it is not",
            Edges.hours(16000) + """
            tick(1520) ! IndexOutOfBoundsException
            tick(1519) = 0
            tick(1) ! IndexOutOfBoundsException
            """);
        Edges.of(TERMS, "THE HOUR is 0 at first and goes on by tick().", "before and after the first tick", """
            person(0, 0, 0) = 0
            crew(0, 0) = 0
            call(0, 0) = 0
            callAt(0, 3) = 2
            answer(0, false) = 2
            tick(5) = 0
            call(0, 0) = 1
            callAt(1, 3) = 7
            """);
        Edges.of(TERMS, "DAY d (0 .. 729) has the hours from 24 d on;", "the last hour of a day, the first of the next",
            """
            crew(0, 0) = 0
            tick(23) = 0
            call(0, 0) = 0
            tick(1) = 0
            call(0, 0) ! IndexOutOfBoundsException
            call(0, 1) = 1
            tick(23) = 0
            call(0, 1) = 2
            tick(1) = 0
            call(0, 1) ! IndexOutOfBoundsException
            call(0, 2) = 3
            """);
        Edges.of(TERMS, "DAY d (0 .. 729) has the hours from 24 d on;", "the last day has the hours up to the last one",
            "crew(0, 0) = 0\n" + Edges.hours(17495) + """
            call(0, 728) = 0
            tick(1) = 0
            call(0, 728) ! IndexOutOfBoundsException
            call(0, 729) = 1
            tick(23) = 0
            call(0, 729) = 2
            call(0, 730) ! IndexOutOfBoundsException
            tick(1) ! IndexOutOfBoundsException
            """);
    }

    private static void days() {
        Edges.of(TERMS, "day 0 is a Monday.", "five working days from day 0 on, then two that are none", """
            working(0, 4) = 5
            working(0, 5) = 5
            working(0, 6) = 5
            working(0, 7) = 6
            """);
        Edges.of(TERMS, "A WORKING DAY is none whose d modulo 7 is 5 or 6,",
            "each day of the first and the last week", """
            working(0, 0) = 1
            working(1, 1) = 1
            working(2, 2) = 1
            working(3, 3) = 1
            working(4, 4) = 1
            working(5, 5) = 0
            working(6, 6) = 0
            working(7, 7) = 1
            working(725, 725) = 1
            working(726, 726) = 0
            working(727, 727) = 0
            working(728, 728) = 1
            working(729, 729) = 1
            """);
        Edges.of(TERMS, "and no HOLIDAY.",
            "a holiday is none, the days beside it are as they were, a free day is one still", """
            holiday(2)
            working(1, 1) = 1
            working(2, 2) = 0
            working(3, 3) = 1
            holiday(5)
            working(5, 5) = 0
            working(0, 6) = 4
            """);
        Edges.of(TERMS, "YEAR 0 has the days 0 .. 364, YEAR 1 the days 365 .. 729.",
            "the first and last day of each", """
            person(0, 0, 0) = 0
            budget(0, 10, 1)
            ask(0, 0, 0, 0, 0) = 0
            left(0, 0, 0) = 9
            ask(0, 0, 364, 364, 0) = 1
            left(0, 0, 0) = 8
            left(0, 1, 0) = 10
            ask(0, 0, 365, 365, 0) = 2
            left(0, 0, 0) = 8
            left(0, 1, 0) = 9
            ask(0, 0, 729, 729, 0) = 3
            left(0, 0, 0) = 8
            left(0, 1, 0) = 8
            """);
    }

    private static void persons() {
        Edges.of(TERMS, "PERSONS 0, 1, .. (at most 20) have", "none yet, the 20th, and no 21st", """
            asked(0) ! IllegalArgumentException
            """ + Edges.times(20, "person(0, 0, 0) = #") + """
            person(0, 0, 0) ! UnsupportedOperationException
            asked(19) = 0
            asked(20) ! IllegalArgumentException
            """);
        Edges.of(TERMS, "SKILLS (a number up to 255 whose bits are skills 0 .. 7),", "the bits of skills 0 to 5",
            oneSkillEach() + """
            crew(1, 0) = 0
            crew(2, 0) = 1
            crew(4, 0) = 2
            crew(8, 0) = 3
            crew(16, 0) = 4
            crew(32, 0) = 5
            """ + Edges.times(6, "call(#, 0) = #\ncallAt(#, 1) = #\nanswer(#, false) = 2"));
        Edges.of(TERMS, "SKILLS (a number up to 255 whose bits are skills 0 .. 7),",
            "the bits of skills 6 and 7, and all",
            oneSkillEach() + """
            crew(64, 0) = 0
            crew(128, 0) = 1
            crew(255, 0) = 2
            crew(192, 0) = 3
            person(255, 0, 0) = 8
            person(127, 0, 0) = 9
            person(254, 0, 0) = 10
            call(0, 0) = 0
            callAt(0, 1) = 6
            call(1, 0) = 1
            callAt(1, 1) = 7
            call(2, 0) = 2
            callAt(2, 1) = 8
            answer(2, false) = 2
            call(3, 1) = 3
            callAt(3, 1) = 10
            """);
        Edges.of(TERMS, "a RANK (0 .. 9),", "nobody is above 9 or below 0", """
            person(0, 9, 0) = 0
            person(0, 9, 0) = 1
            person(0, 8, 0) = 2
            person(0, 0, 0) = 3
            person(0, 1, 0) = 4
            person(0, 0, 0) = 5
            ask(0, 2, 0, 0, 0) = 0
            grant(0, 1) ! IllegalStateException
            ask(2, 2, 0, 0, 0) = 1
            grant(1, 0) = 2
            ask(3, 2, 0, 0, 0) = 2
            grant(2, 5) ! IllegalStateException
            grant(2, 4) = 2
            """);
        Edges.of(TERMS, "a day SINCE which they are there,", "the day before, and that day itself", """
            person(0, 0, 0) = 0
            person(0, 0, 10) = 1
            person(0, 0, 729) = 2
            crew(0, 0) = 0
            member(0, 0, true) = 1
            member(0, 1, true) = 2
            member(0, 2, true) = 3
            present(0, 0) = 1
            present(0, 9) = 1
            present(0, 10) = 2
            present(0, 728) = 2
            present(0, 729) = 3
            """);
        Edges.of(TERMS, "a BUDGET of up / down days a year (0 at first).", "0 is left before the first budget", """
            person(0, 0, 0) = 0
            left(0, 0, 0) = 0
            left(0, 0, 1) = 1
            left(0, 1, 0) = 0
            left(0, 1, 1) = 1
            ask(0, 0, 0, 0, 1) ! IllegalStateException
            ask(0, 0, 5, 6, 0) = 0
            budget(0, 1, 2)
            left(0, 0, 0) = 1
            left(0, 0, 1) = 2
            ask(0, 0, 0, 0, 1) = 1
            left(0, 0, 0) = 0
            left(0, 0, 1) = 1
            """);
    }

    private static String oneSkillEach() {
        return """
            person(1, 0, 0) = 0
            person(2, 0, 0) = 1
            person(4, 0, 0) = 2
            person(8, 0, 0) = 3
            person(16, 0, 0) = 4
            person(32, 0, 0) = 5
            person(64, 0, 0) = 6
            person(128, 0, 0) = 7
            """;
    }

    private static void earned() {
        String earn = "They EARN in a year the budget times the days of the year on which they are there, over 365.";
        Edges.of(TERMS, earn, "there from the first and the last day of each year on", """
            person(0, 0, 0) = 0
            person(0, 0, 1) = 1
            person(0, 0, 364) = 2
            person(0, 0, 365) = 3
            person(0, 0, 366) = 4
            person(0, 0, 729) = 5
            budget(0, 365, 1)
            budget(1, 365, 1)
            budget(2, 365, 1)
            budget(3, 365, 1)
            budget(4, 365, 1)
            budget(5, 365, 1)
            left(0, 0, 0) = 365
            left(0, 1, 0) = 365
            left(1, 0, 0) = 364
            left(1, 1, 0) = 365
            left(2, 0, 0) = 1
            left(2, 1, 0) = 365
            left(3, 0, 0) = 0
            left(3, 1, 0) = 365
            left(4, 0, 0) = 0
            left(4, 1, 0) = 364
            left(5, 0, 0) = 0
            left(5, 1, 0) = 1
            """);
        Edges.of(TERMS, earn, "the smallest part and the largest, as exact fractions", """
            person(0, 0, 364) = 0
            person(0, 0, 1) = 1
            person(0, 0, 0) = 2
            budget(0, 1, 12)
            left(0, 0, 0) = 1
            left(0, 0, 1) = 4380
            budget(1, 1, 12)
            left(1, 0, 0) = 91
            left(1, 0, 1) = 1095
            budget(1, 400, 11)
            left(1, 0, 0) = 29120
            left(1, 0, 1) = 803
            budget(2, 400, 1)
            left(2, 0, 0) = 400
            left(2, 0, 1) = 1
            """);
    }

    private static void left() {
        String carried = "What is LEFT of a year is what they earn, and (in year 1) what is left of year 0,"
            + " but no more than the CARRY";
        Edges.of(TERMS, carried, "less than the carry, as much, and more", """
            person(0, 0, 0) = 0
            budget(0, 9, 2)
            carry(4)
            left(0, 0, 0) = 9
            left(0, 0, 1) = 2
            left(0, 1, 0) = 17
            left(0, 1, 1) = 2
            carry(5)
            left(0, 1, 0) = 9
            left(0, 1, 1) = 1
            budget(0, 5, 1)
            left(0, 1, 0) = 10
            budget(0, 11, 2)
            left(0, 1, 0) = 21
            left(0, 1, 1) = 2
            """);
        Edges.of(TERMS, carried, "a carry of 100 days takes 100 of 101", """
            person(0, 0, 0) = 0
            carry(100)
            budget(0, 101, 1)
            left(0, 1, 0) = 201
            budget(0, 100, 1)
            left(0, 1, 0) = 200
            budget(0, 99, 1)
            left(0, 1, 0) = 198
            """);
        Edges.of(TERMS, "(0 at first;", "nothing is carried before the first carry()", """
            person(0, 0, 0) = 0
            budget(0, 5, 1)
            left(0, 1, 0) = 5
            carry(0)
            left(0, 1, 0) = 5
            carry(1)
            left(0, 1, 0) = 6
            """);
        Edges.of(TERMS, "none when it is below 0),",
            "no run of calls leaves less than 0 of year 0: of 0 itself nothing comes", """
            person(0, 0, 0) = 0
            budget(0, 5, 1)
            carry(100)
            ask(0, 0, 0, 4, 0) = 0
            left(0, 0, 0) = 0
            left(0, 0, 1) = 1
            left(0, 1, 0) = 5
            left(0, 1, 1) = 1
            withdraw(0) = 10
            ask(0, 0, 0, 4, 1) = 1
            left(0, 1, 0) = 11
            left(0, 1, 1) = 2
            """);
        Edges.of(TERMS,
            "less the working days and halves of their asks for holiday in that year that are asked or granted.",
            "asked, with the first step, granted and withdrawn; not other kinds, years, persons or free days", """
            person(0, 0, 0) = 0
            person(0, 1, 0) = 1
            person(0, 2, 0) = 2
            budget(0, 10, 1)
            budget(1, 10, 1)
            ask(0, 0, 0, 0, 0) = 0
            left(0, 0, 0) = 9
            ask(0, 0, 1, 1, 1) = 1
            left(0, 0, 0) = 17
            left(0, 0, 1) = 2
            grant(1, 1) = 1
            left(0, 0, 0) = 17
            grant(1, 2) = 2
            left(0, 0, 0) = 17
            withdraw(1) = 1
            left(0, 0, 0) = 9
            left(0, 0, 1) = 1
            ask(0, 1, 1, 1, 0) = 2
            ask(0, 2, 2, 2, 0) = 3
            grant(3, 1) = 2
            left(0, 0, 0) = 9
            ask(0, 0, 365, 365, 0) = 4
            left(0, 0, 0) = 9
            left(0, 1, 0) = 9
            ask(0, 0, 5, 6, 3) = 5
            left(0, 0, 0) = 9
            left(1, 0, 0) = 10
            """);
    }
}
