/** Promise 1: a new object. */
public final class NewObjectTest {
    public static void main(String[] args) {
        Script.run("no persons", """
            budget(0, 1, 1) ! IllegalArgumentException
            left(0, 0, 0) ! IllegalArgumentException
            absent(0, 0) ! IllegalArgumentException
            asked(0) ! IllegalArgumentException
            ask(0, 0, 0, 0, 0) ! IllegalArgumentException
            bar(0, 0, 0) ! IllegalArgumentException
            person(0, 0, 0) = 0
            """);
        Script.run("no crews, asks, held rows or calls", """
            present(0, 0) ! IllegalArgumentException
            call(0, 0) ! IllegalArgumentException
            askAt(0, 0) ! IllegalArgumentException
            withdraw(0) ! IllegalArgumentException
            held(0, 0) ! IllegalArgumentException
            callAt(0, 0) ! IllegalArgumentException
            answer(0, true) ! IllegalArgumentException
            crew(0, 0) = 0
            """);
        Script.run("the hour is 0, the patience 2, no day a holiday, the carry 0", """
            working(0, 6) = 5
            carry(0)
            person(0, 0, 0) = 0
            crew(0, 0) = 0
            call(0, 0) = 0
            callAt(0, 3) = 2
            """);
        Script.end();
    }
}
