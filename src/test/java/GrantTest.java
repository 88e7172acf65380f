/** Promises 10 and 16: grant, held. */
public final class GrantTest {
    public static void main(String[] args) {
        refusals();
        steps();
        shortCrews();
        presenceByCalls();
        rows();
        Script.end();
    }

    private static void refusals() {
        Script.run("grant refuses", """
            person(0, 3, 0) = 0
            person(0, 3, 0) = 1
            person(0, 4, 0) = 2
            person(0, 2, 0) = 3
            person(0, 9, 0) = 4
            budget(0, 10, 1)
            ask(0, 0, 0, 0, 0) = 0
            grant(1, 2) ! IllegalArgumentException
            grant(-1, 2) ! IllegalArgumentException
            grant(0, 5) ! IllegalArgumentException
            grant(0, -1) ! IllegalArgumentException
            grant(0, 0) ! IllegalStateException
            grant(0, 1) ! IllegalStateException
            grant(0, 3) ! IllegalStateException
            askAt(0, 0) = 0
            askAt(0, 2) = -1
            grant(0, 2) = 1
            grant(0, 2) ! IllegalStateException
            grant(0, 1) ! IllegalStateException
            grant(0, 5) ! IllegalArgumentException
            grant(0, 4) = 2
            grant(0, 4) ! IllegalStateException
            withdraw(0) = 2
            grant(0, 4) ! IllegalStateException
            ask(0, 0, 1, 1, 0) = 1
            withdraw(1) = 2
            grant(1, 4) ! IllegalStateException
            """);
        Script.run("held refuses", """
            person(0, 0, 0) = 0
            person(0, 1, 0) = 1
            crew(0, 1) = 0
            member(0, 0, true) = 1
            held(0, 0) ! IllegalArgumentException
            ask(0, 2, 0, 0, 0) = 0
            grant(0, 1) = 0
            held(0, 0) = 0
            held(0, 1) = 0
            held(0, 2) = 0
            held(0, 3) ! IllegalArgumentException
            held(0, -1) ! IllegalArgumentException
            held(-1, 0) ! IllegalArgumentException
            held(1, 0) ! IllegalArgumentException
            """);
    }

    private static void steps() {
        Script.run("two steps for holiday, one for duty, none for illness", """
            person(0, 0, 0) = 0
            person(0, 1, 0) = 1
            person(0, 9, 0) = 2
            budget(0, 10, 1)
            ask(0, 0, 0, 0, 0) = 0
            ask(0, 1, 1, 1, 0) = 1
            ask(0, 2, 2, 2, 0) = 2
            askAt(0, 0) = 0
            askAt(1, 0) = 2
            askAt(2, 0) = 0
            grant(0, 2) = 1
            askAt(0, 0) = 1
            askAt(0, 2) = 2
            absent(0, 0) = 0
            grant(0, 1) = 2
            askAt(0, 0) = 2
            askAt(0, 2) = 2
            absent(0, 0) = 1
            grant(1, 2) ! IllegalStateException
            askAt(1, 2) = -1
            grant(2, 1) = 2
            askAt(2, 0) = 2
            askAt(2, 2) = 1
            grant(2, 2) ! IllegalStateException
            """);
    }

    private static void shortCrews() {
        Script.run("the first day, and the lowest crew on it", """
            person(0, 0, 0) = 0
            person(0, 5, 0) = 1
            person(0, 6, 0) = 2
            person(0, 0, 0) = 3
            budget(0, 10, 1)
            crew(0, 9) = 0
            crew(0, 0) = 1
            crew(0, 1) = 2
            crew(0, 2) = 3
            member(1, 0, true) = 1
            member(2, 0, true) = 1
            member(2, 3, true) = 2
            member(3, 0, true) = 1
            member(3, 3, true) = 2
            member(3, 1, true) = 3
            ask(3, 1, 9, 9, 0) = 0
            ask(0, 0, 7, 11, 0) = 1
            grant(1, 1) = 1
            grant(1, 2) = 0
            held(0, 0) = 1
            held(0, 1) = 9
            held(0, 2) = 2
            askAt(1, 0) = 1
            askAt(1, 2) = 1
            absent(0, 9) = 0
            member(2, 0, false) = 1
            grant(1, 2) = 0
            held(1, 0) = 1
            held(1, 1) = 9
            held(1, 2) = 3
            withdraw(0) = 2
            grant(1, 1) ! IllegalStateException
            grant(1, 2) = 2
            held(2, 0) ! IllegalArgumentException
            """);
        Script.run("half days, free days and holidays hold nothing", """
            person(0, 0, 0) = 0
            person(0, 9, 0) = 1
            crew(0, 1) = 0
            member(0, 0, true) = 1
            ask(0, 2, 0, 0, 1) = 0
            grant(0, 1) = 2
            ask(0, 2, 4, 7, 3) = 1
            grant(1, 1) = 2
            absent(0, 5) = 1
            holiday(8)
            ask(0, 2, 8, 8, 0) = 2
            grant(2, 1) = 2
            ask(0, 2, 9, 10, 2) = 3
            grant(3, 1) = 0
            held(0, 1) = 9
            ask(0, 2, 14, 15, 1) = 4
            grant(4, 1) = 0
            held(1, 1) = 15
            ask(0, 2, 19, 21, 0) = 5
            grant(5, 1) = 0
            held(2, 1) = 21
            """);
        Script.run("duty that is held has no first step yet, and can be granted later by the same person", """
            person(0, 0, 0) = 0
            person(0, 9, 0) = 1
            person(0, 9, 0) = 2
            crew(0, 1) = 0
            member(0, 0, true) = 1
            ask(0, 2, 0, 0, 0) = 0
            grant(0, 1) = 0
            askAt(0, 0) = 0
            askAt(0, 2) = -1
            member(0, 1, true) = 2
            grant(0, 1) = 2
            askAt(0, 2) = 1
            held(1, 0) ! IllegalArgumentException
            """);
        Script.run("illness asks no crew, the first step of holiday asks none", """
            person(0, 0, 0) = 0
            person(0, 9, 0) = 1
            budget(0, 10, 1)
            crew(0, 1) = 0
            member(0, 0, true) = 1
            ask(0, 1, 0, 0, 0) = 0
            absent(0, 0) = 1
            present(0, 0) = 0
            ask(0, 0, 1, 1, 0) = 1
            grant(1, 1) = 1
            held(0, 0) ! IllegalArgumentException
            """);
        Script.run("a member who is not there yet is not missed", """
            person(0, 0, 9) = 0
            person(0, 9, 0) = 1
            crew(0, 1) = 0
            member(0, 0, true) = 1
            ask(0, 2, 7, 8, 0) = 0
            grant(0, 1) = 2
            ask(0, 2, 9, 10, 0) = 1
            grant(1, 1) = 0
            held(0, 1) = 9
            """);
        Script.run("a crew that is short already holds its members, and nobody else", """
            person(0, 0, 0) = 0
            person(0, 9, 0) = 1
            person(0, 0, 0) = 2
            crew(0, 20) = 0
            ask(0, 2, 7, 7, 0) = 0
            member(0, 2, true) = 1
            grant(0, 1) = 2
            member(0, 0, true) = 2
            ask(0, 2, 8, 8, 0) = 1
            grant(1, 1) = 0
            held(0, 1) = 8
            """);
    }

    private static void presenceByCalls() {
        Script.run("who comes by a call is present", """
            person(0, 0, 0) = 0
            person(0, 9, 0) = 1
            crew(0, 1) = 0
            member(0, 0, true) = 1
            ask(0, 2, 0, 1, 0) = 0
            grant(0, 1) = 0
            held(0, 1) = 0
            call(0, 0) = 0
            grant(0, 1) = 0
            held(1, 1) = 0
            answer(0, true) = 1
            grant(0, 1) = 0
            held(2, 1) = 1
            call(0, 1) = 1
            answer(1, true) = 1
            grant(0, 1) = 2
            """);
        Script.run("a member who comes to the crew by a call is not missed in it", """
            person(0, 0, 0) = 0
            person(0, 9, 0) = 1
            crew(0, 20) = 0
            call(0, 0) = 0
            callAt(0, 1) = 1
            answer(0, false) = 0
            callAt(0, 1) = 0
            answer(0, true) = 1
            member(0, 0, true) = 1
            ask(0, 2, 0, 0, 0) = 0
            grant(0, 1) = 2
            present(0, 0) = 1
            ask(0, 2, 1, 1, 0) = 1
            grant(1, 1) = 0
            """);
        Script.run("a member who comes to another crew by a call is missed in the own one", """
            person(0, 0, 0) = 0
            person(0, 9, 0) = 1
            crew(0, 1) = 0
            crew(0, 1) = 1
            member(0, 0, true) = 1
            member(1, 1, true) = 1
            call(1, 0) = 0
            callAt(0, 1) = 0
            answer(0, true) = 1
            present(0, 0) = 1
            present(1, 0) = 2
            ask(0, 2, 0, 0, 0) = 0
            grant(0, 1) = 0
            held(0, 2) = 0
            """);
    }

    private static void rows() {
        StringBuilder lines = new StringBuilder("""
            person(0, 0, 0) = 0
            person(0, 9, 0) = 1
            crew(0, 1) = 0
            member(0, 0, true) = 1
            ask(0, 2, 0, 0, 0) = 0
            ask(0, 2, 1, 1, 0) = 1
            """);
        for (int i = 0; i < 99; i++) {
            lines.append("grant(0, 1) = 0\n");
        }
        Script.run("at most 100 rows are kept", lines + """
            held(98, 0) = 0
            held(99, 0) ! IllegalArgumentException
            grant(1, 1) = 0
            held(99, 0) = 1
            held(99, 1) = 1
            grant(0, 1) = 0
            grant(0, 1) = 0
            held(99, 0) = 1
            held(0, 0) = 0
            held(100, 0) ! IllegalArgumentException
            askAt(0, 0) = 0
            """);
    }
}
