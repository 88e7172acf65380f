/** Promises 5 and 6: holiday, working. */
public final class CalendarTest {
    public static void main(String[] args) {
        Script.run("weeks", """
            working(0, 0) = 1
            working(4, 4) = 1
            working(5, 5) = 0
            working(6, 6) = 0
            working(7, 7) = 1
            working(0, 6) = 5
            working(5, 6) = 0
            working(4, 7) = 2
            working(0, 729) = 522
            working(729, 729) = 1
            """);
        Script.run("days that there are not", """
            working(-1, 0) ! IndexOutOfBoundsException
            working(0, 730) ! IndexOutOfBoundsException
            working(730, 730) ! IndexOutOfBoundsException
            working(6, 5) ! IndexOutOfBoundsException
            working(-5, -6) ! IndexOutOfBoundsException
            working(-2147483648, 2147483647) ! IndexOutOfBoundsException
            """);
        Script.run("holidays", """
            holiday(0)
            holiday(729)
            holiday(5)
            working(0, 0) = 0
            working(729, 729) = 0
            working(0, 6) = 4
            working(0, 729) = 520
            holiday(0) ! IllegalStateException
            holiday(5) ! IllegalStateException
            holiday(-1) ! IndexOutOfBoundsException
            holiday(730) ! IndexOutOfBoundsException
            holiday(1)
            working(0, 6) = 3
            """);
        Script.run("a holiday gives back what an ask took of it", """
            person(0, 0, 0) = 0
            budget(0, 10, 1)
            ask(0, 0, 0, 4, 1) = 0
            askAt(0, 1) = 9
            left(0, 0, 0) = 11
            left(0, 0, 1) = 2
            holiday(0)
            askAt(0, 1) = 8
            left(0, 0, 0) = 6
            left(0, 0, 1) = 1
            holiday(2)
            askAt(0, 1) = 6
            left(0, 0, 0) = 7
            holiday(5)
            askAt(0, 1) = 6
            withdraw(0) = 6
            """);
        Script.end();
    }
}
