/** Boundary cases of 'Terms': crews, asks and their steps. */
final class EdgesOfAsks {
    private static final String TERMS = "Terms";

    private EdgesOfAsks() {
    }

    static void run() {
        crews();
        asks();
        halves();
        taken();
        steps();
    }

    private static void crews() {
        Edges.of(TERMS, "CREWS 0, 1, .. (at most 6) have", "none yet, the 6th, and no 7th", """
            present(0, 0) ! IllegalArgumentException
            """ + Edges.times(6, "crew(0, 0) = #") + """
            crew(0, 0) ! UnsupportedOperationException
            present(5, 0) = 0
            present(6, 0) ! IllegalArgumentException
            """);
        Edges.of(TERMS, "members (a person may be in several),", "one person in all six crews",
            "person(0, 0, 0) = 0\n" + Edges.times(6, "crew(0, 0) = #\nmember(#, 0, true) = 1")
            + Edges.times(6, "present(#, 0) = 1") + """
            member(3, 0, false) = 0
            present(2, 0) = 1
            present(3, 0) = 0
            present(4, 0) = 1
            """);
        Edges.of(TERMS, "a LEAST number,", "the lowest one holds nobody, the highest one of 20 holds everybody",
            Edges.times(19, "person(0, 0, 0) = #") + """
            person(0, 1, 0) = 19
            crew(0, 0) = 0
            crew(0, 20) = 1
            member(0, 0, true) = 1
            ask(0, 2, 0, 0, 0) = 0
            grant(0, 19) = 2
            present(0, 0) = 0
            """ + Edges.times(19, "member(1, #, true) = @") + """
            member(1, 19, true) = 20
            present(1, 1) = 20
            ask(0, 2, 1, 1, 0) = 1
            grant(1, 19) = 0
            held(0, 2) = 1
            """);
        Edges.of(TERMS, "and SKILLS that a replacement must have.", "none, all, and one too many", """
            person(0, 9, 0) = 0
            person(254, 8, 0) = 1
            person(255, 0, 0) = 2
            crew(0, 0) = 0
            crew(255, 0) = 1
            crew(254, 0) = 2
            call(0, 0) = 0
            callAt(0, 1) = 0
            call(1, 1) = 1
            callAt(1, 1) = 2
            answer(1, false) = 2
            call(2, 2) = 2
            callAt(2, 1) = 1
            """);
    }

    private static void asks() {
        Edges.of(TERMS, "ASKS 0, 1, .. (at most 80):", "none yet, the 80th, no 81st, nor when some are withdrawn", """
            person(0, 0, 0) = 0
            askAt(0, 0) ! IllegalArgumentException
            """ + Edges.times(80, "ask(0, 2, #, #, 0) = #") + """
            ask(0, 2, 80, 80, 0) ! UnsupportedOperationException
            withdraw(0) = 2
            ask(0, 2, 0, 0, 0) ! UnsupportedOperationException
            askAt(79, 0) = 0
            askAt(80, 0) ! IllegalArgumentException
            """);
        Edges.of(TERMS, "of a person, of a KIND 0 HOLIDAY, 1 ILLNESS, 2 DUTY elsewhere,", "the first and last kind", """
            person(0, 0, 0) = 0
            person(0, 0, 0) = 1
            ask(1, -1, 0, 0, 0) ! IllegalArgumentException
            ask(1, 3, 0, 0, 0) ! IllegalArgumentException
            budget(1, 1, 1)
            ask(1, 0, 0, 0, 0) = 0
            ask(1, 1, 1, 1, 0) = 1
            ask(1, 2, 2, 2, 0) = 2
            askAt(0, 3) = 1
            askAt(0, 4) = 0
            askAt(1, 4) = 1
            askAt(2, 4) = 2
            """);
        Edges.of(TERMS, "from a day to another one (both themselves; of one year);",
            "one day, a whole year, a day too long", """
            person(0, 0, 0) = 0
            ask(0, 1, 363, 365, 0) ! IndexOutOfBoundsException
            ask(0, 1, 364, 365, 0) ! IndexOutOfBoundsException
            ask(0, 1, 0, 365, 0) ! IndexOutOfBoundsException
            ask(0, 1, 364, 729, 0) ! IndexOutOfBoundsException
            ask(0, 1, 1, 364, 0) = 0
            absent(0, 0) = 0
            absent(0, 1) = 1
            absent(0, 364) = 1
            absent(0, 365) = 0
            ask(0, 1, 0, 0, 0) = 1
            absent(0, 0) = 1
            ask(0, 1, 365, 729, 0) = 2
            absent(0, 365) = 1
            absent(0, 729) = 1
            """);
    }

    private static void halves() {
        Edges.of(TERMS, "HALVES: 1 the first day is a half one, 2 the last one, 3 both",
            "none, each, both, and of two days", """
            person(0, 0, 0) = 0
            ask(0, 1, 0, 2, 0) = 0
            askAt(0, 1) = 6
            absent(0, 0) = 1
            absent(0, 2) = 1
            ask(0, 1, 7, 9, 1) = 1
            askAt(1, 1) = 5
            absent(0, 7) = 0
            absent(0, 8) = 1
            absent(0, 9) = 1
            ask(0, 1, 14, 16, 2) = 2
            askAt(2, 1) = 5
            absent(0, 14) = 1
            absent(0, 15) = 1
            absent(0, 16) = 0
            ask(0, 1, 21, 23, 3) = 3
            askAt(3, 1) = 4
            absent(0, 21) = 0
            absent(0, 22) = 1
            absent(0, 23) = 0
            ask(0, 1, 28, 29, 3) = 4
            askAt(4, 1) = 2
            absent(0, 28) = 0
            absent(0, 29) = 0
            """);
        Edges.of(TERMS, "(of one day 1 and 2 are the same, 3 is none).", "each number of one day", """
            person(0, 0, 0) = 0
            ask(0, 1, 0, 0, 3) ! IndexOutOfBoundsException
            ask(0, 1, 0, 0, 0) = 0
            askAt(0, 1) = 2
            absent(0, 0) = 1
            ask(0, 1, 1, 1, 1) = 1
            askAt(1, 1) = 1
            absent(0, 1) = 0
            ask(0, 1, 2, 2, 2) = 2
            askAt(2, 1) = 1
            absent(0, 2) = 0
            """);
    }

    private static void taken() {
        Edges.of(TERMS, "An ask TAKES as many half days as its working days have (whatever its kind).",
            "free days and holidays have none, also as half ones, in an ask of each kind", """
            person(0, 0, 0) = 0
            budget(0, 2, 1)
            ask(0, 0, 4, 7, 0) = 0
            askAt(0, 1) = 4
            ask(0, 1, 11, 14, 3) = 1
            askAt(1, 1) = 2
            ask(0, 2, 19, 21, 1) = 2
            askAt(2, 1) = 2
            ask(0, 2, 25, 27, 2) = 3
            askAt(3, 1) = 2
            ask(0, 2, 33, 34, 0) = 4
            askAt(4, 1) = 0
            holiday(39)
            ask(0, 1, 39, 39, 0) = 5
            askAt(5, 1) = 0
            ask(0, 2, 42, 46, 0) = 6
            askAt(6, 1) = 10
            """);
        Edges.of(TERMS, "An ask TAKES as many half days as its working days have (whatever its kind).",
            "a day that becomes a holiday later is taken no more", """
            person(0, 0, 0) = 0
            budget(0, 5, 1)
            ask(0, 0, 0, 4, 3) = 0
            askAt(0, 1) = 8
            holiday(0)
            askAt(0, 1) = 7
            holiday(1)
            askAt(0, 1) = 5
            holiday(5)
            askAt(0, 1) = 5
            left(0, 0, 0) = 5
            left(0, 0, 1) = 2
            """);
    }

    private static void steps() {
        Edges.of(TERMS,
            "It is ASKED (0; illness: granted at once), has its FIRST STEP (1), is GRANTED (2), or WITHDRAWN (3).",
            "each kind in each of them", """
            person(0, 0, 0) = 0
            person(0, 1, 0) = 1
            person(0, 1, 0) = 2
            budget(0, 1, 1)
            ask(0, 0, 0, 0, 0) = 0
            ask(0, 1, 1, 1, 0) = 1
            ask(0, 2, 2, 2, 0) = 2
            askAt(0, 0) = 0
            askAt(1, 0) = 2
            askAt(2, 0) = 0
            grant(0, 1) = 1
            askAt(0, 0) = 1
            grant(0, 2) = 2
            askAt(0, 0) = 2
            grant(2, 1) = 2
            askAt(2, 0) = 2
            withdraw(0) = 2
            withdraw(1) = 2
            withdraw(2) = 2
            askAt(0, 0) = 3
            askAt(1, 0) = 3
            askAt(2, 0) = 3
            """);
        Edges.of(TERMS, "Duty is granted by its first step, holiday by its second one;", "no step more than these", """
            person(0, 0, 0) = 0
            person(0, 1, 0) = 1
            person(0, 1, 0) = 2
            person(0, 1, 0) = 3
            budget(0, 1, 1)
            ask(0, 2, 0, 0, 0) = 0
            ask(0, 0, 1, 1, 0) = 1
            grant(0, 1) = 2
            absent(0, 0) = 1
            askAt(0, 2) = 1
            grant(0, 2) ! IllegalStateException
            grant(1, 1) = 1
            absent(0, 1) = 0
            grant(1, 2) = 2
            absent(0, 1) = 1
            askAt(1, 2) = 1
            grant(1, 3) ! IllegalStateException
            """);
        Edges.of(TERMS, "a step is made by a person of a rank above that of who asks;",
            "one below, the same, one above", """
            person(0, 5, 0) = 0
            person(0, 4, 0) = 1
            person(0, 5, 0) = 2
            person(0, 6, 0) = 3
            person(0, 6, 0) = 4
            budget(0, 1, 1)
            ask(0, 0, 0, 0, 0) = 0
            grant(0, 0) ! IllegalStateException
            grant(0, 1) ! IllegalStateException
            grant(0, 2) ! IllegalStateException
            grant(0, 3) = 1
            grant(0, 0) ! IllegalStateException
            grant(0, 1) ! IllegalStateException
            grant(0, 2) ! IllegalStateException
            grant(0, 4) = 2
            ask(0, 2, 1, 1, 0) = 1
            grant(1, 2) ! IllegalStateException
            grant(1, 3) = 2
            """);
        Edges.of(TERMS, "the second one by another person than the first.",
            "of a lower rank than the first, or of the same", """
            person(0, 0, 0) = 0
            person(0, 9, 0) = 1
            person(0, 1, 0) = 2
            person(0, 9, 0) = 3
            budget(0, 2, 1)
            ask(0, 0, 0, 0, 0) = 0
            grant(0, 1) = 1
            grant(0, 1) ! IllegalStateException
            grant(0, 2) = 2
            ask(0, 0, 1, 1, 0) = 1
            grant(1, 1) = 1
            grant(1, 1) ! IllegalStateException
            grant(1, 3) = 2
            """);
    }
}
