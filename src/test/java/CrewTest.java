/** Promises 7, 8 and 15: crew, member, present. */
public final class CrewTest {
    public static void main(String[] args) {
        Script.run("crews", """
            crew(-1, 0) ! IndexOutOfBoundsException
            crew(256, 0) ! IndexOutOfBoundsException
            crew(0, -1) ! IndexOutOfBoundsException
            crew(0, 21) ! IndexOutOfBoundsException
            crew(0, 0) = 0
            crew(255, 20) = 1
            crew(1, 1) = 2
            crew(1, 1) = 3
            crew(1, 1) = 4
            crew(1, 1) = 5
            crew(1, 1) ! UnsupportedOperationException
            crew(256, 1) ! IndexOutOfBoundsException
            crew(1, 21) ! IndexOutOfBoundsException
            present(5, 0) = 0
            present(6, 0) ! IllegalArgumentException
            """);
        Script.run("members", """
            person(0, 0, 0) = 0
            person(0, 0, 0) = 1
            crew(0, 0) = 0
            crew(0, 0) = 1
            member(0, 0, false) ! IllegalStateException
            member(0, 0, true) = 1
            member(0, 0, true) ! IllegalStateException
            member(0, 1, true) = 2
            member(1, 1, true) = 1
            member(0, 0, false) = 1
            member(0, 0, false) ! IllegalStateException
            member(1, 0, false) ! IllegalStateException
            member(0, 0, true) = 2
            member(2, 0, true) ! IllegalArgumentException
            member(-1, 0, true) ! IllegalArgumentException
            member(0, 2, true) ! IllegalArgumentException
            member(0, -1, false) ! IllegalArgumentException
            member(0, 32, false) ! IllegalArgumentException
            """);
        Script.run("present refuses", """
            crew(0, 0) = 0
            present(-1, 0) ! IllegalArgumentException
            present(1, 0) ! IllegalArgumentException
            present(1, 730) ! IllegalArgumentException
            present(0, -1) ! IndexOutOfBoundsException
            present(0, 730) ! IndexOutOfBoundsException
            present(0, 729) = 0
            """);
        presence();
        Script.end();
    }

    private static void presence() {
        Script.run("present are members there since the day who are not absent", """
            person(0, 0, 0) = 0
            person(0, 0, 8) = 1
            person(0, 0, 0) = 2
            crew(0, 0) = 0
            member(0, 0, true) = 1
            member(0, 1, true) = 2
            present(0, 7) = 1
            present(0, 8) = 2
            ask(0, 1, 7, 12, 3) = 0
            present(0, 7) = 1
            present(0, 8) = 1
            present(0, 11) = 1
            present(0, 12) = 2
            ask(1, 2, 8, 8, 0) = 1
            present(0, 8) = 1
            withdraw(0) = 9
            present(0, 8) = 2
            member(0, 1, false) = 1
            present(0, 8) = 1
            """);
        Script.run("who comes by a call counts once, absent or not, member or not", """
            person(0, 0, 0) = 0
            person(0, 9, 0) = 1
            crew(0, 0) = 0
            crew(0, 0) = 1
            member(0, 0, true) = 1
            call(0, 3) = 0
            present(0, 3) = 1
            answer(0, true) = 1
            present(0, 3) = 2
            present(0, 4) = 1
            present(1, 3) = 0
            ask(1, 1, 0, 6, 0) = 0
            absent(1, 3) = 1
            present(0, 3) = 2
            member(0, 1, true) = 2
            present(0, 3) = 2
            present(0, 4) = 1
            withdraw(0) = 10
            present(0, 3) = 2
            present(0, 4) = 2
            member(0, 1, false) = 1
            present(0, 3) = 2
            present(0, 4) = 1
            """);
    }
}
