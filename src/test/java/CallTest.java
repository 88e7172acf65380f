/** Promises 17 to 23: bar, patience, call, answer, callAt, asked, tick. */
public final class CallTest {
    public static void main(String[] args) {
        refusals();
        whoIsAsked();
        order();
        bars();
        answers();
        time();
        room();
        Script.end();
    }

    private static void refusals() {
        Script.run("unknown numbers and ranges", """
            person(0, 0, 0) = 0
            crew(0, 0) = 0
            bar(1, 0, 0) ! IllegalArgumentException
            bar(-1, 0, 0) ! IllegalArgumentException
            bar(0, 8, 0) ! IllegalArgumentException
            bar(0, -1, 730) ! IllegalArgumentException
            bar(0, 0, -1) ! IndexOutOfBoundsException
            bar(0, 0, 730) ! IndexOutOfBoundsException
            bar(0, 7, 729)
            bar(0, 0, 0)
            patience(0) ! IndexOutOfBoundsException
            patience(49) ! IndexOutOfBoundsException
            patience(-1) ! IndexOutOfBoundsException
            patience(1)
            patience(48)
            call(1, 0) ! IllegalArgumentException
            call(-1, 730) ! IllegalArgumentException
            call(0, -1) ! IndexOutOfBoundsException
            call(0, 730) ! IndexOutOfBoundsException
            call(0, 729) = 0
            answer(1, true) ! IllegalArgumentException
            answer(-1, false) ! IllegalArgumentException
            callAt(1, 0) ! IllegalArgumentException
            callAt(-1, 0) ! IllegalArgumentException
            callAt(0, 4) ! IllegalArgumentException
            callAt(0, -1) ! IllegalArgumentException
            asked(1) ! IllegalArgumentException
            asked(-1) ! IllegalArgumentException
            tick(0) ! IndexOutOfBoundsException
            tick(-1) ! IndexOutOfBoundsException
            tick(2001) ! IndexOutOfBoundsException
            tick(2147483647) ! IndexOutOfBoundsException
            """);
    }

    private static void whoIsAsked() {
        Script.run("no members, nobody absent, nobody who is not there yet, nobody without a skill", """
            person(3, 9, 0) = 0
            person(3, 8, 0) = 1
            person(3, 7, 6) = 2
            person(1, 6, 0) = 3
            person(7, 0, 5) = 4
            crew(3, 0) = 0
            member(0, 0, true) = 1
            ask(1, 1, 5, 5, 0) = 0
            call(0, 5) = 0
            callAt(0, 0) = 0
            callAt(0, 1) = 4
            callAt(0, 2) = 1
            callAt(0, 3) = 2
            answer(0, false) = 2
            callAt(0, 1) = -1
            callAt(0, 2) = 1
            callAt(0, 3) = -1
            withdraw(0) = 0
            call(0, 5) = 1
            callAt(1, 1) = 1
            call(0, 6) = 2
            callAt(2, 1) = 1
            answer(2, false) = 0
            callAt(2, 1) = 2
            """);
        Script.run("who is absent for half a day can be asked", """
            person(0, 9, 0) = 0
            crew(0, 0) = 0
            ask(0, 1, 5, 6, 1) = 0
            call(0, 5) = 0
            callAt(0, 1) = 0
            call(0, 6) = 1
            callAt(1, 0) = 2
            """);
        Script.run("nobody who comes that day, is asked for it, or was asked by the call", """
            person(0, 9, 0) = 0
            person(0, 8, 0) = 1
            crew(0, 0) = 0
            crew(0, 0) = 1
            call(0, 5) = 0
            callAt(0, 1) = 0
            call(1, 5) = 1
            callAt(1, 1) = 1
            call(1, 5) = 2
            callAt(2, 0) = 2
            callAt(2, 1) = -1
            callAt(2, 2) = 0
            callAt(2, 3) = -1
            call(1, 6) = 3
            callAt(3, 1) = 0
            answer(0, true) = 1
            answer(1, false) = 2
            call(1, 5) = 4
            callAt(4, 1) = 1
            answer(4, true) = 1
            call(0, 5) = 5
            callAt(5, 0) = 2
            present(0, 5) = 1
            present(1, 5) = 1
            asked(0) = 2
            asked(1) = 2
            """);
        Script.run("without anybody a call fails at once", """
            crew(0, 0) = 0
            call(0, 0) = 0
            callAt(0, 0) = 2
            callAt(0, 1) = -1
            callAt(0, 2) = 0
            callAt(0, 3) = -1
            answer(0, true) ! IllegalStateException
            answer(0, false) ! IllegalStateException
            tick(2) = 0
            """);
    }

    private static void order() {
        Script.run("the highest rank, asked least often, the lowest number", """
            person(0, 4, 0) = 0
            person(0, 5, 0) = 1
            person(0, 5, 0) = 2
            person(0, 5, 0) = 3
            crew(0, 0) = 0
            call(0, 0) = 0
            callAt(0, 1) = 1
            call(0, 1) = 1
            callAt(1, 1) = 2
            call(0, 2) = 2
            callAt(2, 1) = 3
            call(0, 3) = 3
            callAt(3, 1) = 1
            answer(0, false) = 0
            callAt(0, 1) = 2
            answer(3, false) = 0
            callAt(3, 1) = 3
            answer(3, false) = 0
            callAt(3, 1) = 2
            answer(3, false) = 0
            callAt(3, 1) = 0
            callAt(3, 2) = 4
            answer(3, false) = 2
            callAt(3, 2) = 4
            asked(0) = 1
            asked(1) = 2
            asked(2) = 3
            asked(3) = 2
            """);
    }

    private static void bars() {
        Script.run("barred before a day, from a skill that is wanted", """
            person(6, 9, 0) = 0
            person(2, 5, 0) = 1
            crew(2, 0) = 0
            bar(0, 1, 10)
            bar(1, 2, 729)
            call(0, 9) = 0
            callAt(0, 1) = 1
            call(0, 10) = 1
            callAt(1, 1) = 0
            bar(0, 1, 0)
            call(0, 9) = 2
            callAt(2, 1) = 0
            bar(0, 2, 729)
            call(0, 8) = 3
            callAt(3, 1) = 0
            bar(0, 1, 729)
            call(0, 728) = 4
            callAt(4, 1) = 1
            call(0, 729) = 5
            callAt(5, 1) = 0
            """);
        Script.run("a crew that wants no skill takes barred persons; who was asked may answer", """
            person(1, 9, 0) = 0
            crew(0, 0) = 0
            crew(1, 0) = 1
            bar(0, 0, 729)
            call(0, 0) = 0
            callAt(0, 1) = 0
            bar(0, 0, 0)
            call(1, 1) = 1
            bar(0, 0, 729)
            answer(1, true) = 1
            present(1, 1) = 1
            """);
    }

    private static void answers() {
        Script.run("yes fills, no goes on", """
            person(0, 9, 0) = 0
            person(0, 8, 0) = 1
            crew(0, 0) = 0
            call(0, 0) = 0
            tick(1) = 0
            patience(5)
            callAt(0, 3) = 2
            answer(0, false) = 0
            callAt(0, 1) = 1
            callAt(0, 2) = 2
            callAt(0, 3) = 6
            answer(0, true) = 1
            callAt(0, 0) = 1
            callAt(0, 1) = 1
            callAt(0, 2) = 2
            callAt(0, 3) = -1
            answer(0, true) ! IllegalStateException
            answer(0, false) ! IllegalStateException
            tick(100) = 0
            callAt(0, 0) = 1
            """);
        Script.run("who is asked may have become absent, or a member", """
            person(0, 9, 0) = 0
            crew(0, 0) = 0
            call(0, 0) = 0
            ask(0, 1, 0, 0, 0) = 0
            member(0, 0, true) = 1
            present(0, 0) = 0
            answer(0, true) = 1
            present(0, 0) = 1
            """);
    }

    private static void time() {
        Script.run("days that are over, the last hour", """
            crew(0, 0) = 0
            tick(23) = 0
            call(0, 0) = 0
            tick(1) = 0
            call(0, 0) ! IndexOutOfBoundsException
            call(0, 1) = 1
            tick(2000) = 0
            tick(2000) = 0
            tick(2000) = 0
            tick(2000) = 0
            tick(2000) = 0
            tick(2000) = 0
            tick(2000) = 0
            tick(2000) = 0
            tick(1496) ! IndexOutOfBoundsException
            tick(2000) ! IndexOutOfBoundsException
            tick(1495) = 0
            tick(1) ! IndexOutOfBoundsException
            call(0, 728) ! IndexOutOfBoundsException
            call(0, 729) = 2
            """);
        Script.run("the hour comes", """
            person(0, 9, 0) = 0
            person(0, 8, 0) = 1
            person(0, 7, 0) = 2
            crew(0, 0) = 0
            patience(3)
            call(0, 0) = 0
            tick(2) = 0
            callAt(0, 1) = 0
            patience(1)
            tick(1) = 1
            callAt(0, 1) = 1
            callAt(0, 3) = 4
            patience(48)
            tick(1) = 1
            callAt(0, 1) = 2
            callAt(0, 3) = 52
            tick(47) = 0
            tick(1) = 1
            callAt(0, 0) = 2
            callAt(0, 1) = -1
            callAt(0, 2) = 3
            callAt(0, 3) = -1
            tick(100) = 0
            """);
        Script.run("many hours at once are hours one after the other, also after the day of the call", """
            person(0, 9, 0) = 0
            person(0, 8, 0) = 1
            person(0, 7, 0) = 2
            person(0, 6, 0) = 3
            crew(0, 0) = 0
            patience(20)
            call(0, 0) = 0
            tick(65) = 3
            callAt(0, 0) = 0
            callAt(0, 1) = 3
            callAt(0, 3) = 80
            tick(2000) = 1
            callAt(0, 0) = 2
            """);
        Script.run("in one hour calls go on by their numbers", """
            person(0, 9, 0) = 0
            person(0, 8, 0) = 1
            crew(0, 0) = 0
            call(0, 0) = 0
            call(0, 0) = 1
            callAt(0, 1) = 0
            callAt(1, 1) = 1
            tick(2) = 2
            callAt(0, 0) = 2
            callAt(1, 0) = 0
            callAt(1, 1) = 0
            callAt(1, 3) = 4
            tick(2) = 1
            callAt(1, 0) = 2
            """);
        Script.run("a call that waits at the last hour tells an hour beyond it", """
            person(0, 9, 0) = 0
            crew(0, 0) = 0
            tick(2000) = 0
            tick(2000) = 0
            tick(2000) = 0
            tick(2000) = 0
            tick(2000) = 0
            tick(2000) = 0
            tick(2000) = 0
            tick(2000) = 0
            tick(1518) = 0
            call(0, 729) = 0
            callAt(0, 3) = 17520
            tick(1) = 0
            callAt(0, 0) = 0
            answer(0, true) = 1
            present(0, 729) = 1
            """);
    }

    private static void room() {
        StringBuilder lines = new StringBuilder("crew(0, 0) = 0\ntick(24) = 0\n");
        for (int i = 0; i < 60; i++) {
            lines.append("call(0, 1) = ").append(i).append('\n');
        }
        Script.run("at most 60 calls, and each other refusal before the room", lines + """
            call(0, 1) ! UnsupportedOperationException
            call(0, 0) ! IndexOutOfBoundsException
            call(0, 730) ! IndexOutOfBoundsException
            call(1, 1) ! IllegalArgumentException
            callAt(59, 0) = 2
            callAt(60, 0) ! IllegalArgumentException
            """);
    }
}
