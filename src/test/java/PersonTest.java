/** Promise 2: person. */
public final class PersonTest {
    public static void main(String[] args) {
        Script.run("numbers go up, a refused person takes none", """
            person(0, 0, 0) = 0
            person(255, 9, 729) = 1
            person(256, 9, 729) ! IndexOutOfBoundsException
            person(7, 3, 5) = 2
            """);
        Script.run("ranges", """
            person(-1, 0, 0) ! IndexOutOfBoundsException
            person(256, 0, 0) ! IndexOutOfBoundsException
            person(0, -1, 0) ! IndexOutOfBoundsException
            person(0, 10, 0) ! IndexOutOfBoundsException
            person(0, 0, -1) ! IndexOutOfBoundsException
            person(0, 0, 730) ! IndexOutOfBoundsException
            person(2147483647, 2147483647, 2147483647) ! IndexOutOfBoundsException
            person(-2147483648, -2147483648, -2147483648) ! IndexOutOfBoundsException
            asked(0) ! IllegalArgumentException
            """);
        Script.run("at most 20, the range before the room", twentyPersons() + """
            person(0, 0, 0) ! UnsupportedOperationException
            person(256, 0, 0) ! IndexOutOfBoundsException
            person(0, 10, 0) ! IndexOutOfBoundsException
            person(0, 0, 730) ! IndexOutOfBoundsException
            asked(19) = 0
            asked(20) ! IllegalArgumentException
            """);
        Script.run("the day since which a person is there", """
            person(0, 0, 10) = 0
            crew(0, 0) = 0
            member(0, 0, true) = 1
            present(0, 9) = 0
            present(0, 10) = 1
            """);
        Script.end();
    }

    private static String twentyPersons() {
        StringBuilder lines = new StringBuilder();
        for (int i = 0; i < 20; i++) {
            lines.append("person(0, 0, 0) = ").append(i).append('\n');
        }
        return lines.toString();
    }
}
