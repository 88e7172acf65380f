/** Boundary cases of 'Terms': bars, calls, and whom they ask. */
final class EdgesOfCalls {
    private static final String TERMS = "Terms";

    private EdgesOfCalls() {
    }

    static void run() {
        bars();
        room();
        whoCanBeAsked();
        whoIsEngaged();
        whoIsFirst();
        patience();
        answers();
    }

    private static void bars() {
        Edges.of(TERMS, "BARS: a person is barred from a skill before a day:",
            "from that skill, not from the ones beside it", """
            person(255, 0, 0) = 0
            crew(1, 0) = 0
            crew(2, 0) = 1
            crew(4, 0) = 2
            crew(128, 0) = 3
            bar(0, 1, 100)
            call(0, 0) = 0
            callAt(0, 1) = 0
            call(1, 1) = 1
            callAt(1, 0) = 2
            call(2, 2) = 2
            callAt(2, 1) = 0
            bar(0, 7, 100)
            call(3, 3) = 3
            callAt(3, 0) = 2
            call(3, 100) = 4
            callAt(4, 1) = 0
            """);
        Edges.of(TERMS, "on earlier days the person does not have it for replacements.",
            "the day before, the day itself", """
            person(1, 0, 0) = 0
            crew(1, 0) = 0
            bar(0, 0, 1)
            call(0, 0) = 0
            callAt(0, 0) = 2
            call(0, 1) = 1
            callAt(1, 0) = 0
            callAt(1, 1) = 0
            bar(0, 0, 729)
            call(0, 728) = 2
            callAt(2, 0) = 2
            call(0, 729) = 3
            callAt(3, 1) = 0
            """);
        Edges.of(TERMS, "on earlier days the person does not have it for replacements.",
            "members are present nevertheless", """
            person(1, 0, 0) = 0
            crew(1, 0) = 0
            member(0, 0, true) = 1
            bar(0, 0, 729)
            present(0, 0) = 1
            """);
    }

    private static void room() {
        Edges.of(TERMS, "CALLS 0, 1, .. (at most 60) look for one more person for a crew on a day.",
            "none yet, the 60th, no 61st", """
            crew(0, 0) = 0
            callAt(0, 0) ! IllegalArgumentException
            """ + Edges.times(60, "call(0, #) = #") + """
            call(0, 60) ! UnsupportedOperationException
            callAt(59, 0) = 2
            callAt(60, 0) ! IllegalArgumentException
            """);
        Edges.of(TERMS, "A call ASKS persons one after the other: of those who", "there is nobody at all", """
            crew(0, 0) = 0
            call(0, 0) = 0
            callAt(0, 0) = 2
            callAt(0, 1) = -1
            callAt(0, 2) = 0
            callAt(0, 3) = -1
            """);
        Edges.of(TERMS, "A call ASKS persons one after the other: of those who", "all twenty, and then nobody",
            Edges.times(20, "person(0, 0, 0) = #") + "crew(0, 0) = 0\ncall(0, 0) = 0\n"
            + Edges.times(19, "callAt(0, 1) = #\ncallAt(0, 2) = @\nanswer(0, false) = 0") + """
            callAt(0, 1) = 19
            callAt(0, 2) = 20
            answer(0, false) = 2
            callAt(0, 1) = -1
            callAt(0, 2) = 20
            asked(0) = 1
            asked(19) = 1
            """);
    }

    private static void whoCanBeAsked() {
        Edges.of(TERMS, "are there since that day or before,", "since that day, since the day after", """
            person(0, 0, 5) = 0
            crew(0, 0) = 0
            call(0, 4) = 0
            callAt(0, 0) = 2
            call(0, 5) = 1
            callAt(1, 1) = 0
            call(0, 6) = 2
            callAt(2, 1) = 0
            """);
        Edges.of(TERMS, "no members of the crew,",
            "a member of this crew, of another one, and one who is no member any more", """
            person(0, 9, 0) = 0
            person(0, 0, 0) = 1
            crew(0, 0) = 0
            crew(0, 0) = 1
            member(0, 0, true) = 1
            call(0, 0) = 0
            callAt(0, 1) = 1
            call(1, 1) = 1
            callAt(1, 1) = 0
            member(0, 0, false) = 0
            call(0, 2) = 2
            callAt(2, 1) = 0
            """);
        Edges.of(TERMS, "not absent on that day,",
            "first, last and half days, asks that are not granted, or withdrawn", """
            person(0, 0, 0) = 0
            crew(0, 0) = 0
            ask(0, 1, 2, 4, 0) = 0
            ask(0, 1, 7, 8, 1) = 1
            ask(0, 2, 10, 10, 0) = 2
            call(0, 1) = 0
            callAt(0, 1) = 0
            call(0, 2) = 1
            callAt(1, 0) = 2
            call(0, 4) = 2
            callAt(2, 0) = 2
            call(0, 5) = 3
            callAt(3, 1) = 0
            call(0, 7) = 4
            callAt(4, 1) = 0
            call(0, 8) = 5
            callAt(5, 0) = 2
            call(0, 10) = 6
            callAt(6, 1) = 0
            withdraw(0) = 6
            call(0, 4) = 7
            callAt(7, 1) = 0
            """);
        Edges.of(TERMS, "who have all its skills (but barred ones),",
            "one of two, both, more, and one of both barred", """
            person(1, 9, 0) = 0
            person(2, 8, 0) = 1
            person(7, 7, 0) = 2
            person(3, 6, 0) = 3
            crew(3, 0) = 0
            crew(0, 0) = 1
            call(0, 0) = 0
            callAt(0, 1) = 2
            bar(2, 0, 729)
            call(0, 1) = 1
            callAt(1, 1) = 3
            bar(3, 1, 729)
            call(0, 2) = 2
            callAt(2, 0) = 2
            call(1, 2) = 3
            callAt(3, 1) = 0
            """);
    }

    private static void whoIsEngaged() {
        Edges.of(TERMS, "who do not come to any crew on that day by another call,",
            "to the same crew, to another one, on another day", """
            person(0, 0, 0) = 0
            crew(0, 0) = 0
            crew(0, 0) = 1
            call(0, 5) = 0
            answer(0, true) = 1
            call(0, 5) = 1
            callAt(1, 0) = 2
            call(1, 5) = 2
            callAt(2, 0) = 2
            call(0, 4) = 3
            callAt(3, 1) = 0
            call(0, 6) = 4
            callAt(4, 1) = 0
            """);
        Edges.of(TERMS, "are asked by no other call for that day,",
            "while it waits, after the no, and for another day", """
            person(0, 0, 0) = 0
            crew(0, 0) = 0
            crew(0, 0) = 1
            call(0, 5) = 0
            call(0, 5) = 1
            callAt(1, 0) = 2
            call(1, 5) = 2
            callAt(2, 0) = 2
            call(1, 6) = 3
            callAt(3, 1) = 0
            answer(0, false) = 2
            call(1, 5) = 4
            callAt(4, 1) = 0
            """);
        Edges.of(TERMS, "are asked by no other call for that day,",
            "nobody is kept back by a call that went on to the next one", """
            person(0, 9, 0) = 0
            person(0, 8, 0) = 1
            crew(0, 0) = 0
            call(0, 5) = 0
            answer(0, false) = 0
            callAt(0, 1) = 1
            call(0, 5) = 1
            callAt(1, 1) = 0
            """);
        Edges.of(TERMS, "and were not asked by this one:", "after a no, and after the hour; another call may ask", """
            person(0, 9, 0) = 0
            person(0, 8, 0) = 1
            crew(0, 0) = 0
            call(0, 0) = 0
            answer(0, false) = 0
            callAt(0, 1) = 1
            tick(2) = 1
            callAt(0, 0) = 2
            call(0, 0) = 1
            callAt(1, 1) = 0
            """);
    }

    private static void whoIsFirst() {
        Edges.of(TERMS, "the one of the highest rank,", "9 and 8, 1 and 0, the lower number or the higher one", """
            person(1, 8, 0) = 0
            person(1, 9, 0) = 1
            person(2, 1, 0) = 2
            person(2, 0, 0) = 3
            crew(1, 0) = 0
            crew(2, 0) = 1
            call(0, 0) = 0
            callAt(0, 1) = 1
            answer(0, false) = 0
            callAt(0, 1) = 0
            call(0, 1) = 1
            callAt(1, 1) = 1
            call(1, 2) = 2
            callAt(2, 1) = 2
            answer(2, false) = 0
            callAt(2, 1) = 3
            """);
        Edges.of(TERMS, "of the same the one ASKED least often so far (by all calls),",
            "none and once, once and twice; of another rank", """
            person(0, 5, 0) = 0
            person(0, 5, 0) = 1
            person(0, 4, 0) = 2
            crew(0, 0) = 0
            crew(0, 0) = 1
            call(0, 0) = 0
            callAt(0, 1) = 0
            call(1, 1) = 1
            callAt(1, 1) = 1
            answer(1, false) = 0
            callAt(1, 1) = 0
            call(1, 2) = 2
            callAt(2, 1) = 1
            call(0, 3) = 3
            callAt(3, 1) = 0
            call(0, 4) = 4
            callAt(4, 1) = 1
            asked(0) = 3
            asked(1) = 3
            asked(2) = 0
            """);
        Edges.of(TERMS, "of the same the lowest number.", "of two and of three", """
            person(0, 5, 0) = 0
            person(0, 5, 0) = 1
            person(0, 5, 0) = 2
            crew(0, 0) = 0
            call(0, 0) = 0
            callAt(0, 1) = 0
            call(0, 1) = 1
            callAt(1, 1) = 1
            call(0, 2) = 2
            callAt(2, 1) = 2
            call(0, 3) = 3
            callAt(3, 1) = 0
            """);
    }

    private static void patience() {
        Edges.of(TERMS, "It WAITS (0) for the answer up to the PATIENCE", "the hour before, and the hour itself", """
            person(0, 0, 0) = 0
            crew(0, 0) = 0
            patience(10)
            call(0, 0) = 0
            callAt(0, 0) = 0
            tick(9) = 0
            callAt(0, 0) = 0
            callAt(0, 1) = 0
            tick(1) = 1
            callAt(0, 0) = 2
            """);
        Edges.of(TERMS, "(1 .. 48 hours;", "the shortest one, the longest one, and those beside them", """
            person(0, 0, 0) = 0
            crew(0, 0) = 0
            patience(0) ! IndexOutOfBoundsException
            patience(1)
            call(0, 5) = 0
            callAt(0, 3) = 1
            tick(1) = 1
            callAt(0, 0) = 2
            patience(49) ! IndexOutOfBoundsException
            patience(48)
            call(0, 5) = 1
            callAt(1, 3) = 49
            tick(47) = 0
            callAt(1, 0) = 0
            tick(1) = 1
            callAt(1, 0) = 2
            """);
        Edges.of(TERMS, "2 at first;", "before the first patience()", """
            person(0, 0, 0) = 0
            crew(0, 0) = 0
            call(0, 5) = 0
            callAt(0, 3) = 2
            tick(1) = 0
            callAt(0, 0) = 0
            tick(1) = 1
            callAt(0, 0) = 2
            """);
        Edges.of(TERMS, "as it was when the person was asked):", "shorter or longer from the next person on only", """
            person(0, 9, 0) = 0
            person(0, 8, 0) = 1
            person(0, 7, 0) = 2
            crew(0, 0) = 0
            patience(3)
            call(0, 5) = 0
            patience(1)
            callAt(0, 3) = 3
            tick(2) = 0
            callAt(0, 1) = 0
            tick(1) = 1
            callAt(0, 1) = 1
            callAt(0, 3) = 4
            patience(48)
            tick(1) = 1
            callAt(0, 1) = 2
            callAt(0, 3) = 52
            """);
    }

    private static void answers() {
        Edges.of(TERMS, "with yes it is FILLED (1),", "at the last hour before the next one is asked, and for good", """
            person(0, 9, 0) = 0
            person(0, 8, 0) = 1
            crew(0, 0) = 0
            call(0, 0) = 0
            tick(1) = 0
            answer(0, true) = 1
            callAt(0, 0) = 1
            callAt(0, 1) = 0
            callAt(0, 3) = -1
            tick(1) = 0
            tick(2000) = 0
            callAt(0, 0) = 1
            callAt(0, 1) = 0
            asked(1) = 0
            """);
        Edges.of(TERMS, "with no, or when the hour has come without an answer, it asks the next one;",
            "one after the other", """
            person(0, 9, 0) = 0
            person(0, 8, 0) = 1
            person(0, 7, 0) = 2
            crew(0, 0) = 0
            call(0, 0) = 0
            tick(1) = 0
            answer(0, false) = 0
            callAt(0, 0) = 0
            callAt(0, 1) = 1
            callAt(0, 3) = 3
            tick(1) = 0
            callAt(0, 1) = 1
            tick(1) = 1
            callAt(0, 0) = 0
            callAt(0, 1) = 2
            callAt(0, 3) = 5
            """);
        Edges.of(TERMS, "without one it FAILED (2).", "at once, after the last no, and after the last hour", """
            person(0, 0, 1) = 0
            crew(0, 0) = 0
            call(0, 0) = 0
            callAt(0, 0) = 2
            call(0, 1) = 1
            callAt(1, 0) = 0
            answer(1, false) = 2
            callAt(1, 0) = 2
            callAt(1, 1) = -1
            callAt(1, 3) = -1
            call(0, 1) = 2
            tick(2) = 1
            callAt(2, 0) = 2
            callAt(2, 1) = -1
            callAt(2, 2) = 1
            callAt(2, 3) = -1
            person(0, 0, 0) = 1
            callAt(0, 0) = 2
            tick(100) = 0
            callAt(0, 0) = 2
            """);
    }
}
