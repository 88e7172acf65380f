/** The last sentence of 'Terms': which refusal comes first where two or more would do. */
final class EdgesOfRefusals {
    private static final String TERMS = "Terms";
    private static final String KINDS = "Refusals: unknown numbers IllegalArgumentException, outside of a range"
        + " IndexOutOfBoundsException, not in this state IllegalStateException, no room UnsupportedOperationException;";
    private static final String FIRST = "the first of these that is so.";

    private EdgesOfRefusals() {
    }

    static void run() {
        kinds();
        roomLast();
        unknownFirst();
        rangeBeforeState();
        asks();
        manyCalls();
    }

    private static void kinds() {
        Edges.of(TERMS, KINDS, "one call for each of the four", """
            asked(0) ! IllegalArgumentException
            holiday(730) ! IndexOutOfBoundsException
            holiday(0)
            holiday(0) ! IllegalStateException
            """ + Edges.times(6, "crew(0, 0) = #") + """
            crew(0, 0) ! UnsupportedOperationException
            """);
    }

    private static void roomLast() {
        Edges.of(TERMS, FIRST, "person: each range before the room",
            Edges.times(20, "person(0, 0, 0) = #") + """
            person(0, 0, 0) ! UnsupportedOperationException
            person(-1, 0, 0) ! IndexOutOfBoundsException
            person(256, 0, 0) ! IndexOutOfBoundsException
            person(0, -1, 0) ! IndexOutOfBoundsException
            person(0, 10, 0) ! IndexOutOfBoundsException
            person(0, 0, -1) ! IndexOutOfBoundsException
            person(0, 0, 730) ! IndexOutOfBoundsException
            """);
        Edges.of(TERMS, FIRST, "crew: each range before the room",
            Edges.times(6, "crew(0, 0) = #") + """
            crew(0, 0) ! UnsupportedOperationException
            crew(-1, 0) ! IndexOutOfBoundsException
            crew(256, 0) ! IndexOutOfBoundsException
            crew(0, -1) ! IndexOutOfBoundsException
            crew(0, 21) ! IndexOutOfBoundsException
            """);
        Edges.of(TERMS, FIRST, "call: the crew before the day, the day before the room",
            "crew(0, 0) = 0\ntick(24) = 0\n" + """
            call(1, 0) ! IllegalArgumentException
            call(1, -1) ! IllegalArgumentException
            call(1, 730) ! IllegalArgumentException
            """ + Edges.times(60, "call(0, 1) = #") + """
            call(0, 1) ! UnsupportedOperationException
            call(0, 0) ! IndexOutOfBoundsException
            call(0, -1) ! IndexOutOfBoundsException
            call(0, 730) ! IndexOutOfBoundsException
            call(1, 1) ! IllegalArgumentException
            call(-1, 730) ! IllegalArgumentException
            """);
    }

    private static void unknownFirst() {
        Edges.of(TERMS, FIRST, "budget: the person before the range", """
            person(0, 0, 0) = 0
            budget(1, -1, 1) ! IllegalArgumentException
            budget(1, 401, 1) ! IllegalArgumentException
            budget(1, 1, 0) ! IllegalArgumentException
            budget(-1, 1, 13) ! IllegalArgumentException
            """);
        Edges.of(TERMS, FIRST, "member: the numbers before the state", """
            person(0, 0, 0) = 0
            crew(0, 0) = 0
            member(1, 0, false) ! IllegalArgumentException
            member(0, 1, false) ! IllegalArgumentException
            member(-1, -1, false) ! IllegalArgumentException
            """);
        Edges.of(TERMS, FIRST, "grant: the numbers before the state", """
            person(0, 0, 0) = 0
            ask(0, 1, 0, 0, 0) = 0
            ask(0, 2, 1, 1, 0) = 1
            withdraw(1) = 2
            grant(0, 0) ! IllegalStateException
            grant(0, 1) ! IllegalArgumentException
            grant(0, -1) ! IllegalArgumentException
            grant(1, 1) ! IllegalArgumentException
            grant(2, 0) ! IllegalArgumentException
            grant(2, 1) ! IllegalArgumentException
            """);
        Edges.of(TERMS, FIRST, "absent: the person before the day", """
            person(0, 0, 0) = 0
            absent(1, -1) ! IllegalArgumentException
            absent(1, 730) ! IllegalArgumentException
            absent(-1, 730) ! IllegalArgumentException
            """);
        Edges.of(TERMS, FIRST, "present: the crew before the day", """
            crew(0, 0) = 0
            present(1, -1) ! IllegalArgumentException
            present(1, 730) ! IllegalArgumentException
            present(-1, 730) ! IllegalArgumentException
            """);
        Edges.of(TERMS, FIRST, "bar: the person and the skill before the day", """
            person(0, 0, 0) = 0
            bar(1, 0, -1) ! IllegalArgumentException
            bar(1, 0, 730) ! IllegalArgumentException
            bar(0, 8, -1) ! IllegalArgumentException
            bar(0, 8, 730) ! IllegalArgumentException
            bar(0, -1, 730) ! IllegalArgumentException
            """);
    }

    private static void rangeBeforeState() {
        Edges.of(TERMS, FIRST, "budget: the range before what would be left", """
            person(0, 0, 0) = 0
            budget(0, 1, 1)
            ask(0, 0, 0, 0, 0) = 0
            budget(0, 0, 1) ! IllegalStateException
            budget(0, -1, 1) ! IndexOutOfBoundsException
            budget(0, 0, 0) ! IndexOutOfBoundsException
            budget(0, 0, 13) ! IndexOutOfBoundsException
            budget(1, 0, 1) ! IllegalArgumentException
            """);
        Edges.of(TERMS, FIRST, "carry: the range before what it was", """
            carry(5)
            carry(-1) ! IndexOutOfBoundsException
            carry(0) ! IllegalStateException
            """);
    }

    private static void asks() {
        Edges.of(TERMS, FIRST, "ask: the numbers before the range, the range before the state", """
            person(0, 0, 0) = 0
            ask(0, 1, 0, 4, 0) = 0
            ask(1, 0, -1, 4, 0) ! IllegalArgumentException
            ask(1, 0, 4, 0, 0) ! IllegalArgumentException
            ask(1, 0, 364, 365, 0) ! IllegalArgumentException
            ask(1, 0, 0, 0, 3) ! IllegalArgumentException
            ask(0, 3, 0, 730, 0) ! IllegalArgumentException
            ask(0, 3, 0, 0, 4) ! IllegalArgumentException
            ask(0, 3, 0, 4, 0) ! IllegalArgumentException
            ask(0, 1, 0, 4, 4) ! IndexOutOfBoundsException
            ask(0, 1, 0, 4, -1) ! IndexOutOfBoundsException
            ask(0, 1, 0, 0, 3) ! IndexOutOfBoundsException
            ask(0, 1, 4, 3, 0) ! IndexOutOfBoundsException
            ask(0, 1, 0, 365, 0) ! IndexOutOfBoundsException
            ask(0, 1, -1, 4, 0) ! IndexOutOfBoundsException
            ask(0, 0, 7, 7, 3) ! IndexOutOfBoundsException
            ask(0, 0, 7, 730, 0) ! IndexOutOfBoundsException
            ask(0, 0, 7, 7, 0) ! IllegalStateException
            """);
        Edges.of(TERMS, FIRST, "ask: each other refusal before the room", """
            person(0, 0, 0) = 0
            """ + Edges.times(80, "ask(0, 2, #, #, 0) = #") + """
            ask(0, 2, 100, 100, 0) ! UnsupportedOperationException
            ask(0, 0, 103, 104, 0) ! UnsupportedOperationException
            ask(0, 2, 79, 79, 0) ! IllegalStateException
            ask(0, 0, 100, 100, 0) ! IllegalStateException
            ask(0, 2, 100, 99, 0) ! IndexOutOfBoundsException
            ask(0, 2, 100, 100, 3) ! IndexOutOfBoundsException
            ask(0, 2, 364, 365, 0) ! IndexOutOfBoundsException
            ask(0, 2, 729, 730, 0) ! IndexOutOfBoundsException
            ask(0, 3, 100, 100, 0) ! IllegalArgumentException
            ask(1, 2, 100, 100, 0) ! IllegalArgumentException
            """);
    }

    private static void manyCalls() {
        Edges.of("What it is", "An object is used for at most 512 calls after it has been made;",
            "the last of them is answered too",
            Edges.times(511, "working(0, 729) = 522") + "working(0, 6) = 5\n");
    }
}
