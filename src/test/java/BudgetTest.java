/** Promises 3, 4 and 13: budget, carry, left. */
public final class BudgetTest {
    public static void main(String[] args) {
        refusals();
        fractions();
        partsOfYears();
        carried();
        neverBelowNothing();
        Script.end();
    }

    private static void refusals() {
        Script.run("budget and left refuse", """
            person(0, 0, 0) = 0
            budget(1, 1, 1) ! IllegalArgumentException
            budget(-1, 1, 1) ! IllegalArgumentException
            budget(1, 401, 13) ! IllegalArgumentException
            budget(0, -1, 1) ! IndexOutOfBoundsException
            budget(0, 401, 1) ! IndexOutOfBoundsException
            budget(0, 1, 0) ! IndexOutOfBoundsException
            budget(0, 1, -1) ! IndexOutOfBoundsException
            budget(0, 1, 13) ! IndexOutOfBoundsException
            budget(0, 400, 12)
            budget(0, 400, 1)
            budget(0, 0, 12)
            left(1, 0, 0) ! IllegalArgumentException
            left(-1, 0, 0) ! IllegalArgumentException
            left(0, -1, 0) ! IllegalArgumentException
            left(0, 2, 0) ! IllegalArgumentException
            left(0, 0, -1) ! IllegalArgumentException
            left(0, 0, 2) ! IllegalArgumentException
            """);
        Script.run("carry refuses", """
            carry(-1) ! IndexOutOfBoundsException
            carry(101) ! IndexOutOfBoundsException
            carry(0)
            carry(5)
            carry(4) ! IllegalStateException
            carry(0) ! IllegalStateException
            carry(-1) ! IndexOutOfBoundsException
            carry(5)
            carry(100)
            carry(99) ! IllegalStateException
            carry(100)
            """);
    }

    private static void fractions() {
        Script.run("the budget is 0 at first", """
            person(0, 0, 0) = 0
            left(0, 0, 0) = 0
            left(0, 0, 1) = 1
            left(0, 1, 0) = 0
            left(0, 1, 1) = 1
            """);
        Script.run("lowest terms", """
            person(0, 0, 0) = 0
            budget(0, 6, 4)
            left(0, 0, 0) = 3
            left(0, 0, 1) = 2
            budget(0, 7, 11)
            left(0, 0, 0) = 7
            left(0, 0, 1) = 11
            budget(0, 400, 12)
            left(0, 1, 0) = 100
            left(0, 1, 1) = 3
            budget(0, 0, 12)
            left(0, 1, 0) = 0
            left(0, 1, 1) = 1
            """);
        Script.run("half days", """
            person(0, 0, 0) = 0
            budget(0, 10, 3)
            ask(0, 0, 0, 0, 1) = 0
            left(0, 0, 0) = 17
            left(0, 0, 1) = 6
            ask(0, 0, 1, 1, 2) = 1
            left(0, 0, 0) = 7
            left(0, 0, 1) = 3
            left(0, 1, 0) = 10
            left(0, 1, 1) = 3
            """);
    }

    private static void partsOfYears() {
        Script.run("persons earn on the days on which they are there", """
            person(0, 0, 1) = 0
            person(0, 0, 364) = 1
            person(0, 0, 365) = 2
            person(0, 0, 366) = 3
            person(0, 0, 729) = 4
            budget(0, 12, 11)
            budget(1, 12, 11)
            budget(2, 12, 11)
            budget(3, 12, 11)
            budget(4, 12, 11)
            left(0, 0, 0) = 4368
            left(0, 0, 1) = 4015
            left(0, 1, 0) = 12
            left(0, 1, 1) = 11
            left(1, 0, 0) = 12
            left(1, 0, 1) = 4015
            left(1, 1, 0) = 12
            left(1, 1, 1) = 11
            left(2, 0, 0) = 0
            left(2, 0, 1) = 1
            left(2, 1, 0) = 12
            left(2, 1, 1) = 11
            left(3, 1, 0) = 4368
            left(3, 1, 1) = 4015
            left(4, 0, 0) = 0
            left(4, 0, 1) = 1
            left(4, 1, 0) = 12
            left(4, 1, 1) = 4015
            """);
    }

    private static void carried() {
        Script.run("up to the limit", """
            person(0, 0, 0) = 0
            budget(0, 7, 2)
            left(0, 1, 0) = 7
            left(0, 1, 1) = 2
            carry(3)
            left(0, 0, 0) = 7
            left(0, 0, 1) = 2
            left(0, 1, 0) = 13
            left(0, 1, 1) = 2
            carry(4)
            left(0, 1, 0) = 7
            left(0, 1, 1) = 1
            carry(100)
            left(0, 1, 0) = 7
            left(0, 1, 1) = 1
            """);
        Script.run("what is taken in year 0 is carried no more, what is taken in year 1 does not touch year 0", """
            person(0, 0, 0) = 0
            budget(0, 5, 1)
            carry(100)
            left(0, 1, 0) = 10
            ask(0, 0, 0, 2, 1) = 0
            left(0, 0, 0) = 5
            left(0, 0, 1) = 2
            left(0, 1, 0) = 15
            left(0, 1, 1) = 2
            ask(0, 0, 371, 375, 0) = 1
            left(0, 0, 0) = 5
            left(0, 0, 1) = 2
            left(0, 1, 0) = 5
            left(0, 1, 1) = 2
            withdraw(0) = 5
            left(0, 0, 0) = 5
            left(0, 0, 1) = 1
            left(0, 1, 0) = 5
            left(0, 1, 1) = 1
            """);
        Script.run("only holiday that is not withdrawn counts, whatever its step", """
            person(0, 0, 0) = 0
            person(0, 5, 0) = 1
            person(0, 6, 0) = 2
            budget(0, 10, 1)
            ask(0, 1, 0, 0, 0) = 0
            ask(0, 2, 1, 1, 0) = 1
            left(0, 0, 0) = 10
            ask(0, 0, 2, 2, 0) = 2
            left(0, 0, 0) = 9
            grant(2, 1) = 1
            left(0, 0, 0) = 9
            grant(2, 2) = 2
            left(0, 0, 0) = 9
            grant(1, 1) = 2
            left(0, 0, 0) = 9
            withdraw(2) = 2
            left(0, 0, 0) = 10
            left(1, 0, 0) = 0
            """);
    }

    private static void neverBelowNothing() {
        Script.run("a budget that leaves exactly 0 is one", """
            person(0, 0, 0) = 0
            budget(0, 10, 1)
            ask(0, 0, 0, 2, 1) = 0
            budget(0, 4, 2) ! IllegalStateException
            left(0, 0, 0) = 15
            left(0, 0, 1) = 2
            budget(0, 5, 2)
            left(0, 0, 0) = 0
            left(0, 0, 1) = 1
            budget(0, 29, 12) ! IllegalStateException
            withdraw(0) = 5
            budget(0, 0, 1)
            """);
        Script.run("a budget may fail for year 1 alone", """
            person(0, 0, 0) = 0
            budget(0, 5, 1)
            carry(2)
            ask(0, 0, 371, 379, 0) = 0
            left(0, 1, 0) = 0
            left(0, 1, 1) = 1
            budget(0, 59, 12) ! IllegalStateException
            budget(0, 4, 1) ! IllegalStateException
            carry(3)
            budget(0, 4, 1)
            budget(0, 47, 12) ! IllegalStateException
            """);
        Script.run("an ask in year 0 may fail for year 1 alone", """
            person(0, 0, 0) = 0
            budget(0, 5, 1)
            carry(5)
            ask(0, 0, 371, 382, 0) = 0
            left(0, 1, 0) = 0
            ask(0, 0, 0, 0, 1) ! IllegalStateException
            left(0, 0, 0) = 5
            ask(0, 1, 0, 0, 1) = 1
            ask(0, 0, 5, 6, 0) = 2
            """);
        Script.run("the limit of the carry leaves room in year 0", """
            person(0, 0, 0) = 0
            budget(0, 5, 1)
            carry(2)
            ask(0, 0, 371, 379, 0) = 0
            ask(0, 0, 0, 2, 0) = 1
            ask(0, 0, 3, 3, 1) ! IllegalStateException
            left(0, 0, 0) = 2
            """);
    }
}
