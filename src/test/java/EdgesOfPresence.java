/** Boundary cases of 'Terms': the rows on absence, on what is held and on presence. */
final class EdgesOfPresence {
    private static final String TERMS = "Terms";
    private static final String LAST_STEP = "The last step (also of duty) is not made when";

    private EdgesOfPresence() {
    }

    static void run() {
        absent();
        lastSteps();
        daysThatHold();
        crewsThatHold();
        rows();
        rowsOfTheLastCrew();
        present();
    }

    private static void absent() {
        String sentence = "A person is ABSENT on a day within a granted ask, but on a half day.";
        Edges.of(TERMS, sentence,
            "the days before, first, free, last and after; not before it is granted, nor withdrawn", """
            person(0, 0, 0) = 0
            person(0, 1, 0) = 1
            person(0, 1, 0) = 2
            budget(0, 5, 1)
            ask(0, 0, 4, 8, 0) = 0
            absent(0, 4) = 0
            grant(0, 1) = 1
            absent(0, 4) = 0
            grant(0, 2) = 2
            absent(0, 3) = 0
            absent(0, 4) = 1
            absent(0, 5) = 1
            absent(0, 6) = 1
            absent(0, 7) = 1
            absent(0, 8) = 1
            absent(0, 9) = 0
            absent(1, 4) = 0
            withdraw(0) = 6
            absent(0, 4) = 0
            absent(0, 8) = 0
            """);
        Edges.of(TERMS, sentence, "all twenty on one day, one of them not on the next",
            Edges.times(20, "person(0, 0, 0) = #\nask(#, 1, 0, 1, 0) = #") + Edges.times(20, "absent(#, 0) = 1") + """
            withdraw(7) = 4
            absent(6, 1) = 1
            absent(7, 1) = 0
            absent(8, 1) = 1
            """);
        Edges.of(TERMS, sentence, "half days at both ends, on free days too, and before the person is there", """
            person(0, 0, 700) = 0
            ask(0, 1, 5, 13, 3) = 0
            absent(0, 5) = 0
            absent(0, 6) = 1
            absent(0, 12) = 1
            absent(0, 13) = 0
            holiday(7)
            absent(0, 7) = 1
            """);
    }

    private static void lastSteps() {
        Edges.of(TERMS, LAST_STEP, "the first step of holiday is made, the second is not", """
            person(0, 0, 0) = 0
            person(0, 1, 0) = 1
            person(0, 1, 0) = 2
            budget(0, 1, 1)
            crew(0, 1) = 0
            member(0, 0, true) = 1
            ask(0, 0, 0, 0, 0) = 0
            grant(0, 1) = 1
            held(0, 0) ! IllegalArgumentException
            grant(0, 2) = 0
            held(0, 0) = 0
            askAt(0, 0) = 1
            askAt(0, 2) = 1
            absent(0, 0) = 0
            """);
        Edges.of(TERMS, LAST_STEP, "the only step of duty is not made, so nobody has made its first one", """
            person(0, 0, 0) = 0
            person(0, 1, 0) = 1
            crew(0, 1) = 0
            member(0, 0, true) = 1
            ask(0, 2, 0, 0, 0) = 0
            grant(0, 1) = 0
            held(0, 0) = 0
            askAt(0, 0) = 0
            askAt(0, 2) = -1
            absent(0, 0) = 0
            member(0, 0, false) = 0
            grant(0, 1) = 2
            askAt(0, 2) = 1
            """);
        Edges.of(TERMS, "(Illness asks no crew.)",
            "the last one of a crew is granted illness, and is missed by the crew", """
            person(0, 0, 0) = 0
            crew(0, 1) = 0
            member(0, 0, true) = 1
            ask(0, 1, 0, 4, 0) = 0
            askAt(0, 0) = 2
            present(0, 0) = 0
            held(0, 0) ! IllegalArgumentException
            """);
    }

    private static void daysThatHold() {
        Edges.of(TERMS, "on some working day of the ask",
            "the first day alone, the last day alone, the days beside it", """
            person(0, 0, 0) = 0
            person(0, 0, 0) = 1
            person(0, 1, 0) = 2
            crew(0, 1) = 0
            member(0, 0, true) = 1
            member(0, 1, true) = 2
            ask(1, 1, 9, 9, 0) = 0
            ask(0, 2, 7, 9, 0) = 1
            grant(1, 2) = 0
            held(0, 1) = 9
            withdraw(1) = 6
            ask(0, 2, 9, 11, 0) = 2
            grant(2, 2) = 0
            held(1, 1) = 9
            withdraw(2) = 6
            ask(0, 2, 7, 8, 0) = 3
            grant(3, 2) = 2
            ask(0, 2, 10, 11, 0) = 4
            grant(4, 2) = 2
            """);
        Edges.of(TERMS, "on some working day of the ask", "free days and holidays hold nothing", """
            person(0, 0, 0) = 0
            person(0, 1, 0) = 1
            crew(0, 1) = 0
            member(0, 0, true) = 1
            holiday(4)
            holiday(7)
            ask(0, 2, 4, 7, 0) = 0
            grant(0, 1) = 2
            present(0, 5) = 0
            ask(0, 2, 11, 13, 0) = 1
            grant(1, 1) = 0
            held(0, 1) = 11
            ask(0, 2, 19, 21, 0) = 2
            grant(2, 1) = 0
            held(1, 1) = 21
            """);
        Edges.of(TERMS, "on which the person would be absent", "half days hold nothing, the days beside them do", """
            person(0, 0, 0) = 0
            person(0, 1, 0) = 1
            crew(0, 1) = 0
            member(0, 0, true) = 1
            ask(0, 2, 0, 0, 1) = 0
            grant(0, 1) = 2
            ask(0, 2, 1, 1, 2) = 1
            grant(1, 1) = 2
            ask(0, 2, 2, 3, 3) = 2
            grant(2, 1) = 2
            present(0, 2) = 1
            ask(0, 2, 7, 8, 1) = 3
            grant(3, 1) = 0
            held(0, 1) = 8
            ask(0, 2, 14, 15, 2) = 4
            grant(4, 1) = 0
            held(1, 1) = 14
            ask(0, 2, 21, 23, 3) = 5
            grant(5, 1) = 0
            held(2, 1) = 22
            """);
    }

    private static void crewsThatHold() {
        Edges.of(TERMS, "some crew, of which the person is a member",
            "a crew that is short does not hold who is no member", """
            person(0, 0, 0) = 0
            person(0, 1, 0) = 1
            crew(0, 20) = 0
            ask(0, 2, 0, 0, 0) = 0
            grant(0, 1) = 2
            ask(0, 2, 1, 1, 0) = 1
            member(0, 0, true) = 1
            grant(1, 1) = 0
            held(0, 2) = 0
            member(0, 0, false) = 0
            grant(1, 1) = 2
            """);
        Edges.of(TERMS, "who is present that day",
            "a member is not missed on the day before the one since which it is there", """
            person(0, 0, 8) = 0
            person(0, 1, 0) = 1
            crew(0, 1) = 0
            member(0, 0, true) = 1
            ask(0, 2, 7, 7, 0) = 0
            grant(0, 1) = 2
            ask(0, 2, 8, 8, 0) = 1
            grant(1, 1) = 0
            held(0, 1) = 8
            """);
        Edges.of(TERMS, "and does not come by a call,",
            "a member who comes to the crew by a call stays present, that day alone", """
            person(0, 5, 0) = 0
            person(0, 9, 0) = 1
            crew(0, 1) = 0
            member(0, 1, true) = 1
            call(0, 0) = 0
            callAt(0, 1) = 0
            answer(0, true) = 1
            member(0, 1, false) = 0
            member(0, 0, true) = 1
            ask(0, 2, 0, 0, 0) = 0
            grant(0, 1) = 2
            absent(0, 0) = 1
            present(0, 0) = 1
            ask(0, 2, 1, 1, 0) = 1
            grant(1, 1) = 0
            held(0, 1) = 1
            """);
        Edges.of(TERMS, "would have fewer PRESENT than its least then:",
            "as many as the least are enough, one fewer is not", """
            person(0, 0, 0) = 0
            person(0, 0, 0) = 1
            person(0, 0, 0) = 2
            person(0, 1, 0) = 3
            crew(0, 2) = 0
            member(0, 0, true) = 1
            member(0, 1, true) = 2
            member(0, 2, true) = 3
            ask(0, 2, 0, 0, 0) = 0
            ask(1, 2, 0, 0, 0) = 1
            grant(0, 3) = 2
            present(0, 0) = 2
            grant(1, 3) = 0
            present(0, 0) = 2
            withdraw(0) = 2
            grant(1, 3) = 2
            """);
        Edges.of(TERMS, "would have fewer PRESENT than its least then:",
            "of a least of 0 never, of more than there are always", """
            person(0, 0, 0) = 0
            person(0, 1, 0) = 1
            crew(0, 0) = 0
            crew(0, 3) = 1
            member(0, 0, true) = 1
            ask(0, 2, 0, 0, 0) = 0
            grant(0, 1) = 2
            present(0, 0) = 0
            member(1, 0, true) = 1
            member(1, 1, true) = 2
            ask(0, 2, 1, 1, 0) = 1
            grant(1, 1) = 0
            held(0, 2) = 1
            """);
        Edges.of(TERMS, "would have fewer PRESENT than its least then:",
            "who comes to the crew by a call is one of them, who is asked is not", """
            person(0, 0, 0) = 0
            person(0, 1, 0) = 1
            crew(0, 1) = 0
            member(0, 0, true) = 1
            ask(0, 2, 0, 0, 0) = 0
            call(0, 0) = 0
            grant(0, 1) = 0
            answer(0, true) = 1
            grant(0, 1) = 2
            """);
    }

    private static void rows() {
        Edges.of(TERMS, "it is HELD: a row (at most 100; further ones are not kept)",
            "none yet, the 100th, and no 101st", """
            person(0, 0, 0) = 0
            person(0, 1, 0) = 1
            crew(0, 1) = 0
            member(0, 0, true) = 1
            ask(0, 2, 0, 0, 0) = 0
            ask(0, 2, 1, 1, 0) = 1
            ask(0, 2, 2, 2, 0) = 2
            held(0, 0) ! IllegalArgumentException
            """ + Edges.times(99, "grant(0, 1) = 0") + """
            held(99, 0) ! IllegalArgumentException
            grant(1, 1) = 0
            held(99, 0) = 1
            grant(2, 1) = 0
            held(100, 0) ! IllegalArgumentException
            held(99, 0) = 1
            held(98, 0) = 0
            held(0, 0) = 0
            askAt(2, 0) = 0
            """);
        Edges.of(TERMS, "with the ask, the first such day, and the lowest such crew on it.",
            "two asks, two days and three crews, of which the lowest is short on the second day only", """
            person(0, 0, 0) = 0
            person(0, 0, 0) = 1
            person(0, 1, 0) = 2
            crew(0, 1) = 0
            crew(0, 1) = 1
            crew(0, 1) = 2
            member(0, 0, true) = 1
            member(0, 1, true) = 2
            member(1, 0, true) = 1
            member(2, 0, true) = 1
            ask(1, 1, 2, 2, 0) = 0
            ask(0, 2, 5, 5, 0) = 1
            ask(0, 2, 1, 2, 0) = 2
            grant(2, 2) = 0
            held(0, 0) = 2
            held(0, 1) = 1
            held(0, 2) = 1
            ask(0, 2, 7, 8, 0) = 3
            withdraw(2) = 4
            ask(0, 2, 2, 3, 0) = 4
            grant(4, 2) = 0
            held(1, 0) = 4
            held(1, 1) = 2
            held(1, 2) = 0
            grant(3, 2) = 0
            held(2, 0) = 3
            held(2, 1) = 7
            held(2, 2) = 1
            """);
    }

    private static void rowsOfTheLastCrew() {
        Edges.of(TERMS, "with the ask, the first such day, and the lowest such crew on it.",
            "the last of six crews, and the first of them", """
            person(0, 0, 0) = 0
            person(0, 1, 0) = 1
            ask(0, 2, 0, 0, 0) = 0
            """ + Edges.times(5, "crew(0, 0) = #\nmember(#, 0, true) = 1") + """
            crew(0, 1) = 5
            member(5, 0, true) = 1
            grant(0, 1) = 0
            held(0, 2) = 5
            member(5, 1, true) = 2
            grant(0, 1) = 2
            """);
        Edges.of(TERMS, "with the ask, the first such day, and the lowest such crew on it.",
            "all six crews are short", """
            person(0, 0, 0) = 0
            person(0, 1, 0) = 1
            ask(0, 2, 0, 0, 0) = 0
            """ + Edges.times(6, "crew(0, 1) = #\nmember(#, 0, true) = 1") + """
            grant(0, 1) = 0
            held(0, 2) = 0
            member(0, 0, false) = 0
            grant(0, 1) = 0
            held(1, 2) = 1
            """);
    }

    private static void present() {
        Edges.of(TERMS,
            "PRESENT of a crew on a day are its members (there since that day or before) who are not absent,",
            "none, the day before, the day itself, absent, half absent, no member any more", """
            person(0, 0, 3) = 0
            person(0, 0, 0) = 1
            crew(0, 0) = 0
            present(0, 3) = 0
            member(0, 0, true) = 1
            present(0, 2) = 0
            present(0, 3) = 1
            present(0, 4) = 1
            member(0, 1, true) = 2
            present(0, 3) = 2
            ask(1, 1, 2, 4, 1) = 0
            present(0, 2) = 1
            present(0, 3) = 1
            present(0, 4) = 1
            present(0, 5) = 2
            member(0, 0, false) = 1
            present(0, 5) = 1
            """);
        Edges.of(TERMS, "and those who come to it by calls", "to that crew on that day, not before the yes", """
            person(0, 0, 0) = 0
            crew(0, 0) = 0
            crew(0, 0) = 1
            call(0, 3) = 0
            present(0, 3) = 0
            answer(0, true) = 1
            present(0, 2) = 0
            present(0, 3) = 1
            present(0, 4) = 0
            present(1, 3) = 0
            """);
        Edges.of(TERMS, "and those who come to it by calls", "two on one day", """
            person(0, 9, 0) = 0
            person(0, 8, 0) = 1
            crew(0, 0) = 0
            call(0, 3) = 0
            call(0, 3) = 1
            answer(0, true) = 1
            answer(1, true) = 1
            present(0, 3) = 2
            """);
        Edges.of(TERMS, "and those who come to it by calls", "on sixty days by sixty calls", """
            person(0, 0, 0) = 0
            crew(0, 0) = 0
            """ + Edges.times(60, "call(0, #) = #\nanswer(#, true) = 1\npresent(0, #) = 1\npresent(0, @) = 0"));
        Edges.of(TERMS, "(absent or not; each person counts once).", "absent after the yes, and a member besides", """
            person(0, 0, 0) = 0
            crew(0, 0) = 0
            call(0, 3) = 0
            answer(0, true) = 1
            member(0, 0, true) = 1
            present(0, 3) = 1
            ask(0, 1, 3, 4, 0) = 0
            absent(0, 3) = 1
            present(0, 3) = 1
            present(0, 4) = 0
            member(0, 0, false) = 0
            present(0, 3) = 1
            """);
    }
}
