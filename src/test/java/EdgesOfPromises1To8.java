/** Boundary cases of the promises 1 to 8: a new object, person, budget, carry, holiday, working, crew, member. */
final class EdgesOfPromises1To8 {
    private EdgesOfPromises1To8() {
    }

    static void run() {
        newObject();
        person();
        budget();
        budgetBelowNothing();
        carry();
        holiday();
        working();
        crew();
        member();
    }

    private static void newObject() {
        Edges.of("Promise 1", "No persons,", "nothing can be said or asked of person 0", """
            budget(0, 1, 1) ! IllegalArgumentException
            ask(0, 0, 0, 0, 0) ! IllegalArgumentException
            left(0, 0, 0) ! IllegalArgumentException
            absent(0, 0) ! IllegalArgumentException
            bar(0, 0, 0) ! IllegalArgumentException
            asked(0) ! IllegalArgumentException
            crew(0, 0) = 0
            member(0, 0, true) ! IllegalArgumentException
            call(0, 0) = 0
            callAt(0, 0) = 2
            """);
        Edges.of("Promise 1", "no crews.", "nothing can be said or asked of crew 0, nor of asks, rows and calls", """
            person(0, 0, 0) = 0
            member(0, 0, true) ! IllegalArgumentException
            present(0, 0) ! IllegalArgumentException
            call(0, 0) ! IllegalArgumentException
            grant(0, 0) ! IllegalArgumentException
            withdraw(0) ! IllegalArgumentException
            askAt(0, 0) ! IllegalArgumentException
            held(0, 0) ! IllegalArgumentException
            answer(0, true) ! IllegalArgumentException
            callAt(0, 0) ! IllegalArgumentException
            """);
        besideAnOldOne();
    }

    private static void besideAnOldOne() {
        AbsenceRows old = new AbsenceRows();
        String[] before = {
            "person(0, 0, 0)", "crew(0, 0)", "holiday(0)", "carry(100)", "patience(48)", "tick(100)",
        };
        for (String call : before) {
            Script.answerTo(old, call);
        }
        Edges.of("Promise 1", "No persons, no crews.", "a new object has nothing of an older one", """
            asked(0) ! IllegalArgumentException
            present(0, 0) ! IllegalArgumentException
            working(0, 0) = 1
            carry(0)
            person(0, 0, 0) = 0
            crew(0, 0) = 0
            call(0, 0) = 0
            callAt(0, 3) = 2
            """);
        String after = Script.answerTo(old, "working(0, 0)") + Script.answerTo(old, "person(0, 0, 0)")
            + Script.answerTo(old, "crew(0, 0)");
        if (!after.equals("= 0= 1= 1")) {
            Script.fail("Promise 1: an older object has something of a new one: " + after);
        }
    }

    private static void person() {
        Edges.of("Promise 2", "One more person: the number.",
            "0 first, then one more each; a refused one takes none", """
            person(0, 0, 0) = 0
            person(0, 10, 0) ! IndexOutOfBoundsException
            person(0, 0, 0) = 1
            person(0, 0, 0) = 2
            asked(2) = 0
            asked(3) ! IllegalArgumentException
            """);
        Edges.of("Promise 2", "IndexOutOfBoundsException: skills,",
            "the first and last that are taken, those beside them", """
            person(-1, 0, 0) ! IndexOutOfBoundsException
            person(256, 0, 0) ! IndexOutOfBoundsException
            person(-2147483648, 0, 0) ! IndexOutOfBoundsException
            person(2147483647, 0, 0) ! IndexOutOfBoundsException
            person(0, 0, 0) = 0
            person(255, 0, 0) = 1
            """);
        Edges.of("Promise 2", "rank,", "the first and last that are taken, those beside them", """
            person(0, -1, 0) ! IndexOutOfBoundsException
            person(0, 10, 0) ! IndexOutOfBoundsException
            person(0, -2147483648, 0) ! IndexOutOfBoundsException
            person(0, 2147483647, 0) ! IndexOutOfBoundsException
            person(0, 0, 0) = 0
            person(0, 9, 0) = 1
            """);
        Edges.of("Promise 2", "the day;", "the first and last that are taken, those beside them", """
            person(0, 0, -1) ! IndexOutOfBoundsException
            person(0, 0, 730) ! IndexOutOfBoundsException
            person(0, 0, -2147483648) ! IndexOutOfBoundsException
            person(0, 0, 2147483647) ! IndexOutOfBoundsException
            person(0, 0, 0) = 0
            person(0, 0, 729) = 1
            """);
        Edges.of("Promise 2", "the day;", "a day that is over is one too", """
            tick(100) = 0
            person(0, 0, 0) = 0
            """);
        Edges.of("Promise 2", "UnsupportedOperationException: there are 20.", "19 leave room for one, 20 for none",
            Edges.times(19, "person(0, 0, 0) = #") + """
            person(0, 0, 0) = 19
            person(0, 0, 0) ! UnsupportedOperationException
            person(255, 9, 729) ! UnsupportedOperationException
            asked(20) ! IllegalArgumentException
            """);
    }

    private static void budget() {
        Edges.of("Promise 3", "A budget.", "a later one stands for an earlier one, of that person alone", """
            person(0, 0, 0) = 0
            person(0, 0, 0) = 1
            budget(0, 3, 1)
            left(0, 0, 0) = 3
            left(1, 0, 0) = 0
            budget(0, 1, 3)
            left(0, 0, 0) = 1
            left(0, 0, 1) = 3
            budget(0, 0, 1)
            left(0, 0, 0) = 0
            left(0, 0, 1) = 1
            """);
        Edges.of("Promise 3", "IllegalArgumentException: no such person;", "below the first, after the last", """
            budget(0, 1, 1) ! IllegalArgumentException
            person(0, 0, 0) = 0
            budget(-1, 1, 1) ! IllegalArgumentException
            budget(1, 1, 1) ! IllegalArgumentException
            budget(20, 1, 1) ! IllegalArgumentException
            budget(-2147483648, 1, 1) ! IllegalArgumentException
            budget(2147483647, 1, 1) ! IllegalArgumentException
            budget(0, 1, 1)
            """);
        Edges.of("Promise 3", "IndexOutOfBoundsException: up is not 0 .. 400,",
            "the first and last that are taken, those beside them", """
            person(0, 0, 0) = 0
            budget(0, 400, 1)
            left(0, 0, 0) = 400
            budget(0, 401, 1) ! IndexOutOfBoundsException
            budget(0, -1, 1) ! IndexOutOfBoundsException
            budget(0, -2147483648, 1) ! IndexOutOfBoundsException
            budget(0, 2147483647, 1) ! IndexOutOfBoundsException
            left(0, 0, 0) = 400
            budget(0, 0, 1)
            left(0, 0, 0) = 0
            """);
        Edges.of("Promise 3", "or down not 1 .. 12;", "the first and last that are taken, those beside them", """
            person(0, 0, 0) = 0
            budget(0, 1, 0) ! IndexOutOfBoundsException
            budget(0, 0, 0) ! IndexOutOfBoundsException
            budget(0, 1, 13) ! IndexOutOfBoundsException
            budget(0, 1, -1) ! IndexOutOfBoundsException
            budget(0, 1, -2147483648) ! IndexOutOfBoundsException
            budget(0, 1, 2147483647) ! IndexOutOfBoundsException
            left(0, 0, 0) = 0
            budget(0, 1, 1)
            left(0, 0, 0) = 1
            left(0, 0, 1) = 1
            budget(0, 1, 12)
            left(0, 0, 0) = 1
            left(0, 0, 1) = 12
            """);
    }

    private static void budgetBelowNothing() {
        String sentence = "IllegalStateException: something would be left below 0.";
        Edges.of("Promise 3", sentence,
            "of year 0: exactly 0 is enough, a twelfth less is not, and leaves all as it was", """
            person(0, 0, 0) = 0
            budget(0, 5, 1)
            ask(0, 0, 0, 4, 0) = 0
            budget(0, 59, 12) ! IllegalStateException
            budget(0, 0, 1) ! IllegalStateException
            left(0, 0, 0) = 0
            left(0, 0, 1) = 1
            left(0, 1, 0) = 5
            budget(0, 60, 12)
            left(0, 0, 0) = 0
            budget(0, 61, 12)
            left(0, 0, 0) = 1
            left(0, 0, 1) = 12
            """);
        Edges.of("Promise 3", sentence, "of year 1 alone: exactly 0 is enough, also with what is carried", """
            person(0, 0, 0) = 0
            budget(0, 5, 1)
            carry(2)
            ask(0, 0, 371, 379, 0) = 0
            left(0, 1, 0) = 0
            left(0, 0, 0) = 5
            budget(0, 59, 12) ! IllegalStateException
            left(0, 0, 0) = 5
            carry(5)
            left(0, 1, 0) = 3
            budget(0, 7, 2)
            left(0, 1, 0) = 0
            budget(0, 41, 12) ! IllegalStateException
            """);
        Edges.of("Promise 3", sentence,
            "of an ask that is withdrawn, of another kind or of another person nothing would", """
            person(0, 0, 0) = 0
            person(0, 0, 0) = 1
            budget(0, 5, 1)
            ask(0, 0, 0, 4, 0) = 0
            ask(1, 1, 0, 4, 0) = 1
            ask(1, 2, 7, 11, 0) = 2
            budget(1, 0, 1)
            budget(0, 0, 1) ! IllegalStateException
            withdraw(0) = 10
            budget(0, 0, 1)
            """);
    }

    private static void carry() {
        Edges.of("Promise 4", "The carry, in days.", "whole days, of every person", """
            person(0, 0, 0) = 0
            person(0, 0, 0) = 1
            budget(0, 5, 2)
            budget(1, 7, 3)
            carry(1)
            left(0, 1, 0) = 7
            left(0, 1, 1) = 2
            left(1, 1, 0) = 10
            left(1, 1, 1) = 3
            """);
        Edges.of("Promise 4", "IndexOutOfBoundsException: it is not 0 .. 100;",
            "the first and last that are taken, those beside them", """
            carry(-1) ! IndexOutOfBoundsException
            carry(101) ! IndexOutOfBoundsException
            carry(-2147483648) ! IndexOutOfBoundsException
            carry(2147483647) ! IndexOutOfBoundsException
            carry(0)
            carry(100)
            """);
        Edges.of("Promise 4", "IllegalStateException: it is less than it was.",
            "one less, as much, one more; a refused one changes nothing", """
            person(0, 0, 0) = 0
            budget(0, 50, 1)
            carry(10)
            carry(9) ! IllegalStateException
            left(0, 1, 0) = 60
            carry(0) ! IllegalStateException
            carry(10)
            carry(101) ! IndexOutOfBoundsException
            carry(11)
            left(0, 1, 0) = 61
            carry(10) ! IllegalStateException
            left(0, 1, 0) = 61
            """);
    }

    private static void holiday() {
        Edges.of("Promise 5", "A day is a holiday.", "that day alone", """
            holiday(8)
            working(7, 7) = 1
            working(8, 8) = 0
            working(9, 9) = 1
            """);
        Edges.of("Promise 5", "IndexOutOfBoundsException: no such day;",
            "the first and last that are taken, those beside them", """
            holiday(-1) ! IndexOutOfBoundsException
            holiday(730) ! IndexOutOfBoundsException
            holiday(-2147483648) ! IndexOutOfBoundsException
            holiday(2147483647) ! IndexOutOfBoundsException
            holiday(0)
            holiday(729)
            working(0, 729) = 520
            """);
        Edges.of("Promise 5", "IllegalStateException: it is one.",
            "a second time, on a working day and on a free one", """
            holiday(0)
            holiday(0) ! IllegalStateException
            holiday(5)
            holiday(5) ! IllegalStateException
            holiday(729)
            holiday(729) ! IllegalStateException
            holiday(1)
            """);
        Edges.of("Promise 5", "IllegalStateException: it is one.",
            "a free day is none yet, nor is a day that is over", """
            tick(1000) = 0
            holiday(5)
            holiday(6)
            holiday(0)
            """);
    }

    private static void working() {
        Edges.of("Promise 6", "How many working days there are from a day to another one (both themselves).",
            "one day, two, over a week's end, none, all", """
            working(0, 0) = 1
            working(3, 4) = 2
            working(4, 5) = 1
            working(4, 7) = 2
            working(5, 6) = 0
            working(6, 7) = 1
            working(364, 365) = 2
            working(0, 729) = 522
            working(0, 364) = 261
            working(365, 729) = 261
            """);
        Edges.of("Promise 6", "IndexOutOfBoundsException: no such days,",
            "the first and last that are taken, those beside them", """
            working(-1, 0) ! IndexOutOfBoundsException
            working(-1, -1) ! IndexOutOfBoundsException
            working(0, 730) ! IndexOutOfBoundsException
            working(730, 730) ! IndexOutOfBoundsException
            working(-2147483648, 2147483647) ! IndexOutOfBoundsException
            working(2147483647, 2147483647) ! IndexOutOfBoundsException
            working(0, 0) = 1
            working(729, 729) = 1
            """);
        Edges.of("Promise 6", "or the second one is below the first.", "one below, the same, one above", """
            working(8, 7) ! IndexOutOfBoundsException
            working(8, 8) = 1
            working(8, 9) = 2
            working(729, 0) ! IndexOutOfBoundsException
            """);
    }

    private static void crew() {
        Edges.of("Promise 7", "One more crew: its number.", "0 first, then one more each; a refused one takes none", """
            crew(0, 0) = 0
            crew(0, 21) ! IndexOutOfBoundsException
            crew(0, 0) = 1
            crew(0, 0) = 2
            present(2, 0) = 0
            present(3, 0) ! IllegalArgumentException
            """);
        Edges.of("Promise 7", "IndexOutOfBoundsException: skills,",
            "the first and last that are taken, those beside them", """
            crew(-1, 0) ! IndexOutOfBoundsException
            crew(256, 0) ! IndexOutOfBoundsException
            crew(-2147483648, 0) ! IndexOutOfBoundsException
            crew(2147483647, 0) ! IndexOutOfBoundsException
            crew(0, 0) = 0
            crew(255, 0) = 1
            """);
        Edges.of("Promise 7", "least (0 .. 20);", "the first and last that are taken, those beside them", """
            crew(0, -1) ! IndexOutOfBoundsException
            crew(0, 21) ! IndexOutOfBoundsException
            crew(0, -2147483648) ! IndexOutOfBoundsException
            crew(0, 2147483647) ! IndexOutOfBoundsException
            crew(0, 0) = 0
            crew(0, 20) = 1
            """);
        Edges.of("Promise 7", "UnsupportedOperationException: there are 6.", "5 leave room for one, 6 for none",
            Edges.times(5, "crew(0, 0) = #") + """
            crew(0, 0) = 5
            crew(0, 0) ! UnsupportedOperationException
            crew(255, 20) ! UnsupportedOperationException
            present(6, 0) ! IllegalArgumentException
            """);
    }

    private static void member() {
        Edges.of("Promise 8", "A person is a member of a crew, or not any more: how many members.",
            "the first, the 20th, and fewer again",
            "crew(0, 0) = 0\n" + Edges.times(20, "person(0, 0, 0) = #\nmember(0, #, true) = @") + """
            present(0, 0) = 20
            member(0, 19, false) = 19
            member(0, 0, false) = 18
            present(0, 0) = 18
            member(0, 0, true) = 19
            """);
        Edges.of("Promise 8", "A person is a member of a crew, or not any more: how many members.",
            "from one to none and back", """
            person(0, 0, 0) = 0
            crew(0, 0) = 0
            member(0, 0, true) = 1
            member(0, 0, false) = 0
            present(0, 0) = 0
            member(0, 0, true) = 1
            """);
        Edges.of("Promise 8", "IllegalArgumentException: no such crew", "below the first, after the last", """
            person(0, 0, 0) = 0
            crew(0, 0) = 0
            member(-1, 0, true) ! IllegalArgumentException
            member(1, 0, true) ! IllegalArgumentException
            member(6, 0, true) ! IllegalArgumentException
            member(-2147483648, 0, true) ! IllegalArgumentException
            member(2147483647, 0, true) ! IllegalArgumentException
            member(0, 0, true) = 1
            """);
        Edges.of("Promise 8", "or person;", "below the first, after the last, and where bits would wrap around", """
            person(0, 0, 0) = 0
            crew(0, 0) = 0
            member(0, -1, true) ! IllegalArgumentException
            member(0, 1, true) ! IllegalArgumentException
            member(0, 20, true) ! IllegalArgumentException
            member(0, 32, true) ! IllegalArgumentException
            member(0, -32, true) ! IllegalArgumentException
            member(0, -2147483648, true) ! IllegalArgumentException
            member(0, 2147483647, true) ! IllegalArgumentException
            member(0, 0, true) = 1
            """);
        Edges.of("Promise 8", "IllegalStateException: it is so.",
            "no member yet, a member, none any more; a refused call changes nothing", """
            person(0, 0, 0) = 0
            person(0, 0, 0) = 1
            crew(0, 0) = 0
            crew(0, 0) = 1
            member(0, 0, false) ! IllegalStateException
            present(0, 0) = 0
            member(0, 0, true) = 1
            member(0, 0, true) ! IllegalStateException
            present(0, 0) = 1
            member(1, 0, false) ! IllegalStateException
            member(0, 1, false) ! IllegalStateException
            member(0, 0, false) = 0
            member(0, 0, false) ! IllegalStateException
            present(0, 0) = 0
            member(0, 0, true) = 1
            """);
    }
}
