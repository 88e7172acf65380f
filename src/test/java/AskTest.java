/** Promises 9, 11, 12 and 14: ask, withdraw, askAt, absent. */
public final class AskTest {
    public static void main(String[] args) {
        refusals();
        overlaps();
        room();
        halfDays();
        withdrawn();
        absence();
        Script.end();
    }

    private static void refusals() {
        Script.run("an ask of no such person, kind, days, halves", """
            person(0, 0, 0) = 0
            ask(1, 1, 0, 0, 0) ! IllegalArgumentException
            ask(-1, 1, 0, 0, 0) ! IllegalArgumentException
            ask(0, 3, 0, 0, 0) ! IllegalArgumentException
            ask(0, -1, 0, 0, 0) ! IllegalArgumentException
            ask(0, 3, -1, 0, 4) ! IllegalArgumentException
            ask(0, 1, -1, 0, 0) ! IndexOutOfBoundsException
            ask(0, 1, 729, 730, 0) ! IndexOutOfBoundsException
            ask(0, 1, 730, 730, 0) ! IndexOutOfBoundsException
            ask(0, 1, 2, 1, 0) ! IndexOutOfBoundsException
            ask(0, 1, 364, 365, 0) ! IndexOutOfBoundsException
            ask(0, 1, 0, 729, 0) ! IndexOutOfBoundsException
            ask(0, 1, 0, 1, -1) ! IndexOutOfBoundsException
            ask(0, 1, 0, 1, 4) ! IndexOutOfBoundsException
            ask(0, 1, 0, 0, 3) ! IndexOutOfBoundsException
            ask(0, 1, 0, 364, 3) = 0
            ask(0, 1, 365, 729, 0) = 1
            ask(0, 1, 0, 0, 3) ! IndexOutOfBoundsException
            askAt(0, 1) = 520
            askAt(1, 1) = 522
            """);
        Script.run("askAt, withdraw and absent refuse", """
            person(0, 0, 0) = 0
            ask(0, 2, 0, 0, 0) = 0
            askAt(1, 0) ! IllegalArgumentException
            askAt(-1, 0) ! IllegalArgumentException
            askAt(0, -1) ! IllegalArgumentException
            askAt(0, 5) ! IllegalArgumentException
            withdraw(1) ! IllegalArgumentException
            withdraw(-1) ! IllegalArgumentException
            absent(1, 0) ! IllegalArgumentException
            absent(-1, 0) ! IllegalArgumentException
            absent(1, 730) ! IllegalArgumentException
            absent(0, -1) ! IndexOutOfBoundsException
            absent(0, 730) ! IndexOutOfBoundsException
            absent(0, 729) = 0
            """);
    }

    private static void overlaps() {
        Script.run("no day of two asks of one person", """
            person(0, 0, 0) = 0
            person(0, 0, 0) = 1
            ask(0, 2, 10, 14, 3) = 0
            ask(0, 2, 14, 14, 1) ! IllegalStateException
            ask(0, 1, 10, 10, 1) ! IllegalStateException
            ask(0, 1, 12, 12, 0) ! IllegalStateException
            ask(0, 1, 0, 20, 0) ! IllegalStateException
            ask(0, 1, 0, 10, 0) ! IllegalStateException
            ask(0, 1, 0, 9, 0) = 1
            ask(0, 1, 15, 15, 0) = 2
            ask(1, 1, 0, 20, 0) = 3
            withdraw(0) = 4
            ask(0, 1, 10, 14, 0) = 4
            """);
    }

    private static void room() {
        StringBuilder lines = new StringBuilder("person(0, 0, 0) = 0\nbudget(0, 1, 1)\n");
        for (int i = 0; i < 80; i++) {
            lines.append("ask(0, 2, ").append(i).append(", ").append(i).append(", 0) = ").append(i).append('\n');
        }
        Script.run("at most 80 asks, and each other refusal before the room", lines + """
            ask(0, 2, 80, 80, 0) ! UnsupportedOperationException
            ask(0, 0, 84, 84, 0) ! UnsupportedOperationException
            ask(0, 0, 84, 85, 0) ! IllegalStateException
            ask(0, 2, 79, 79, 0) ! IllegalStateException
            ask(0, 2, 79, 79, 3) ! IndexOutOfBoundsException
            ask(0, 3, 79, 79, 3) ! IllegalArgumentException
            withdraw(79) = 2
            ask(0, 2, 79, 79, 0) ! UnsupportedOperationException
            askAt(79, 0) = 3
            askAt(80, 0) ! IllegalArgumentException
            """);
    }

    private static void halfDays() {
        Script.run("half days of working days alone", """
            person(0, 0, 0) = 0
            ask(0, 2, 0, 0, 1) = 0
            askAt(0, 1) = 1
            ask(0, 2, 1, 1, 2) = 1
            askAt(1, 1) = 1
            ask(0, 2, 2, 2, 0) = 2
            askAt(2, 1) = 2
            ask(0, 2, 5, 7, 1) = 3
            askAt(3, 1) = 2
            ask(0, 2, 11, 12, 2) = 4
            askAt(4, 1) = 2
            ask(0, 2, 14, 18, 1) = 5
            askAt(5, 1) = 9
            ask(0, 2, 21, 25, 2) = 6
            askAt(6, 1) = 9
            ask(0, 2, 28, 32, 3) = 7
            askAt(7, 1) = 8
            ask(0, 2, 33, 34, 3) = 8
            askAt(8, 1) = 0
            """);
        Script.run("holiday before a person is there is a holiday too, of the budget of its year", """
            person(0, 0, 200) = 0
            budget(0, 365, 11)
            ask(0, 0, 0, 4, 0) = 0
            left(0, 0, 0) = 10
            left(0, 0, 1) = 1
            """);
        Script.run("holiday up to the last half day that is left", """
            person(0, 0, 0) = 0
            budget(0, 9, 4)
            ask(0, 0, 0, 2, 0) ! IllegalStateException
            ask(0, 0, 0, 2, 1) ! IllegalStateException
            ask(0, 0, 0, 2, 3) = 0
            ask(0, 0, 3, 3, 1) ! IllegalStateException
            left(0, 0, 0) = 1
            left(0, 0, 1) = 4
            budget(0, 5, 2)
            ask(0, 0, 3, 3, 1) = 1
            left(0, 0, 0) = 0
            ask(0, 0, 4, 4, 2) ! IllegalStateException
            ask(0, 0, 5, 6, 0) = 2
            """);
    }

    private static void withdrawn() {
        Script.run("every ask can be withdrawn once", """
            person(0, 0, 0) = 0
            person(0, 1, 0) = 1
            person(0, 1, 0) = 2
            budget(0, 5, 1)
            ask(0, 0, 0, 0, 0) = 0
            ask(0, 0, 1, 1, 1) = 1
            ask(0, 0, 2, 2, 0) = 2
            ask(0, 1, 3, 6, 0) = 3
            grant(1, 1) = 1
            grant(2, 1) = 1
            grant(2, 2) = 2
            askAt(0, 0) = 0
            askAt(1, 0) = 1
            askAt(2, 0) = 2
            askAt(3, 0) = 2
            withdraw(0) = 2
            withdraw(1) = 1
            withdraw(2) = 2
            withdraw(3) = 4
            askAt(0, 0) = 3
            askAt(1, 0) = 3
            askAt(2, 0) = 3
            askAt(3, 0) = 3
            askAt(3, 1) = 4
            askAt(1, 2) = 1
            askAt(3, 2) = -1
            askAt(3, 3) = 0
            askAt(3, 4) = 1
            withdraw(0) ! IllegalStateException
            withdraw(3) ! IllegalStateException
            left(0, 0, 0) = 5
            """);
    }

    private static void absence() {
        Script.run("absent within a granted ask, on free days too, but not on half days", """
            person(0, 0, 0) = 0
            person(0, 1, 0) = 1
            ask(0, 2, 4, 8, 3) = 0
            absent(0, 5) = 0
            grant(0, 1) = 2
            absent(0, 3) = 0
            absent(0, 4) = 0
            absent(0, 5) = 1
            absent(0, 6) = 1
            absent(0, 7) = 1
            absent(0, 8) = 0
            absent(0, 9) = 0
            absent(1, 5) = 0
            ask(1, 1, 4, 6, 1) = 1
            absent(1, 4) = 0
            absent(1, 6) = 1
            ask(1, 1, 7, 9, 2) = 2
            absent(1, 7) = 1
            absent(1, 9) = 0
            ask(1, 1, 20, 20, 1) = 3
            absent(1, 20) = 0
            ask(1, 1, 21, 21, 2) = 4
            absent(1, 21) = 0
            ask(1, 1, 22, 22, 0) = 5
            absent(1, 22) = 1
            withdraw(5) = 2
            absent(1, 22) = 0
            """);
    }
}
