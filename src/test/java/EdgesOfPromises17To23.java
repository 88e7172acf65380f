/** Boundary cases of the promises 17 to 23: bar, patience, call, answer, callAt, asked, tick. */
final class EdgesOfPromises17To23 {
    private EdgesOfPromises17To23() {
    }

    static void run() {
        bar();
        patience();
        call();
        answer();
        callAt();
        asked();
        tick();
        tickRefuses();
    }

    private static void bar() {
        Edges.of("Promise 17", "A person is barred from a skill before a day",
            "that person alone; a later bar stands for an earlier one", """
            person(1, 9, 0) = 0
            person(1, 0, 0) = 1
            crew(1, 0) = 0
            bar(0, 0, 6)
            call(0, 5) = 0
            callAt(0, 1) = 1
            call(0, 6) = 1
            callAt(1, 1) = 0
            bar(0, 0, 4)
            call(0, 3) = 2
            callAt(2, 1) = 1
            call(0, 4) = 3
            callAt(3, 1) = 0
            """);
        Edges.of("Promise 17", "(0: not).", "not barred at first, barred before day 1, not barred again", """
            person(1, 0, 0) = 0
            crew(1, 0) = 0
            call(0, 0) = 0
            callAt(0, 1) = 0
            answer(0, false) = 2
            bar(0, 0, 1)
            call(0, 0) = 1
            callAt(1, 0) = 2
            bar(0, 0, 0)
            call(0, 0) = 2
            callAt(2, 1) = 0
            """);
        Edges.of("Promise 17", "IllegalArgumentException: no such person",
            "none yet, below the first, after the last", """
            bar(0, 0, 0) ! IllegalArgumentException
            person(0, 0, 0) = 0
            bar(-1, 0, 0) ! IllegalArgumentException
            bar(1, 0, 0) ! IllegalArgumentException
            bar(20, 0, 0) ! IllegalArgumentException
            bar(-2147483648, 0, 0) ! IllegalArgumentException
            bar(2147483647, 0, 0) ! IllegalArgumentException
            bar(0, 0, 0)
            """);
        Edges.of("Promise 17", "or skill;",
            "the first and last that are taken, those beside them, which bar nobody else from anything", """
            person(255, 0, 0) = 0
            person(255, 0, 0) = 1
            crew(255, 0) = 0
            bar(0, 8, 729) ! IllegalArgumentException
            bar(1, -1, 729) ! IllegalArgumentException
            bar(0, 32, 729) ! IllegalArgumentException
            bar(0, -2147483648, 729) ! IllegalArgumentException
            bar(0, 2147483647, 729) ! IllegalArgumentException
            call(0, 0) = 0
            callAt(0, 1) = 0
            answer(0, false) = 0
            callAt(0, 1) = 1
            bar(0, 0, 729)
            bar(1, 7, 729)
            call(0, 1) = 1
            callAt(1, 0) = 2
            """);
        Edges.of("Promise 17", "or skill;", "a skill that the person does not have can be barred too", """
            person(0, 0, 0) = 0
            bar(0, 0, 729)
            bar(0, 7, 1)
            """);
        Edges.of("Promise 17", "IndexOutOfBoundsException: no such day.",
            "the first and last that are taken, those beside them", """
            person(1, 0, 0) = 0
            crew(1, 0) = 0
            bar(0, 0, -1) ! IndexOutOfBoundsException
            bar(0, 0, 730) ! IndexOutOfBoundsException
            bar(0, 0, -2147483648) ! IndexOutOfBoundsException
            bar(0, 0, 2147483647) ! IndexOutOfBoundsException
            call(0, 0) = 0
            callAt(0, 1) = 0
            bar(0, 0, 0)
            bar(0, 0, 729)
            bar(0, 0, 730) ! IndexOutOfBoundsException
            call(0, 1) = 1
            callAt(1, 0) = 2
            """);
    }

    private static void patience() {
        Edges.of("Promise 18", "The patience of calls.", "of the calls after it, not of those before", """
            person(0, 0, 0) = 0
            crew(0, 0) = 0
            call(0, 0) = 0
            patience(7)
            call(0, 1) = 1
            callAt(0, 3) = 2
            callAt(1, 3) = 7
            """);
        Edges.of("Promise 18", "IndexOutOfBoundsException: it is not so.",
            "the first and last that are taken, those beside them", """
            person(0, 0, 0) = 0
            crew(0, 0) = 0
            patience(0) ! IndexOutOfBoundsException
            patience(49) ! IndexOutOfBoundsException
            patience(-1) ! IndexOutOfBoundsException
            patience(-2147483648) ! IndexOutOfBoundsException
            patience(2147483647) ! IndexOutOfBoundsException
            call(0, 0) = 0
            callAt(0, 3) = 2
            patience(1)
            call(0, 1) = 1
            callAt(1, 3) = 1
            patience(48)
            call(0, 2) = 2
            callAt(2, 3) = 48
            """);
    }

    private static void call() {
        Edges.of("Promise 19", "A call: its number.",
            "0 first, then one more each, also when it fails; a refused one takes none and asks nobody", """
            crew(0, 0) = 0
            call(0, 0) = 0
            person(0, 0, 0) = 0
            call(0, 730) ! IndexOutOfBoundsException
            asked(0) = 0
            call(0, 0) = 1
            callAt(1, 0) = 0
            call(0, 0) = 2
            callAt(2, 0) = 2
            callAt(3, 0) ! IllegalArgumentException
            """);
        Edges.of("Promise 19", "A call: its number.", "for a free day, a holiday, and a crew that has enough", """
            person(0, 0, 0) = 0
            person(0, 0, 0) = 1
            crew(0, 0) = 0
            member(0, 0, true) = 1
            holiday(1)
            call(0, 1) = 0
            callAt(0, 1) = 1
            call(0, 5) = 1
            callAt(1, 1) = 1
            """);
        Edges.of("Promise 19", "IllegalArgumentException: no such crew;",
            "none yet, below the first, after the last", """
            call(0, 0) ! IllegalArgumentException
            crew(0, 0) = 0
            call(-1, 0) ! IllegalArgumentException
            call(1, 0) ! IllegalArgumentException
            call(6, 0) ! IllegalArgumentException
            call(-2147483648, 0) ! IllegalArgumentException
            call(2147483647, 0) ! IllegalArgumentException
            call(0, 0) = 0
            """);
        Edges.of("Promise 19", "IndexOutOfBoundsException: no such day,",
            "the first and last that are taken, those beside them", """
            crew(0, 0) = 0
            call(0, -1) ! IndexOutOfBoundsException
            call(0, 730) ! IndexOutOfBoundsException
            call(0, -2147483648) ! IndexOutOfBoundsException
            call(0, 2147483647) ! IndexOutOfBoundsException
            call(0, 0) = 0
            call(0, 729) = 1
            """);
        Edges.of("Promise 19", "or it is over;", "in its last hour it is not, in the next it is", """
            crew(0, 0) = 0
            tick(47) = 0
            call(0, 0) ! IndexOutOfBoundsException
            call(0, 1) = 0
            tick(1) = 0
            call(0, 1) ! IndexOutOfBoundsException
            call(0, 2) = 1
            """);
        Edges.of("Promise 19", "UnsupportedOperationException: there are 60.",
            "59 leave room for one, 60 for none; then nobody is asked",
            "crew(0, 0) = 0\n" + Edges.times(59, "call(0, 0) = #") + """
            person(0, 0, 0) = 0
            call(0, 0) = 59
            asked(0) = 1
            call(0, 1) ! UnsupportedOperationException
            call(0, 729) ! UnsupportedOperationException
            asked(0) = 1
            callAt(60, 0) ! IllegalArgumentException
            """);
    }

    private static void answer() {
        Edges.of("Promise 20", "The person who is asked answers: what the call is then.",
            "yes, no with a next one, no without one", """
            person(0, 9, 0) = 0
            person(0, 8, 0) = 1
            crew(0, 0) = 0
            call(0, 0) = 0
            answer(0, true) = 1
            callAt(0, 1) = 0
            call(0, 1) = 1
            answer(1, false) = 0
            callAt(1, 1) = 1
            answer(1, false) = 2
            callAt(1, 1) = -1
            call(0, 2) = 2
            answer(2, false) = 0
            answer(2, true) = 1
            callAt(2, 1) = 1
            """);
        Edges.of("Promise 20", "The person who is asked answers: what the call is then.",
            "yes of one who has become absent, barred, or a member", """
            person(1, 9, 0) = 0
            crew(1, 0) = 0
            call(0, 0) = 0
            ask(0, 1, 0, 0, 0) = 0
            bar(0, 0, 729)
            member(0, 0, true) = 1
            answer(0, true) = 1
            callAt(0, 1) = 0
            present(0, 0) = 1
            """);
        Edges.of("Promise 20", "IllegalArgumentException: there is none such;",
            "none yet, below the first, after the last", """
            answer(0, true) ! IllegalArgumentException
            person(0, 0, 0) = 0
            crew(0, 0) = 0
            call(0, 0) = 0
            answer(-1, true) ! IllegalArgumentException
            answer(1, true) ! IllegalArgumentException
            answer(60, false) ! IllegalArgumentException
            answer(-2147483648, true) ! IllegalArgumentException
            answer(2147483647, false) ! IllegalArgumentException
            callAt(0, 0) = 0
            answer(0, true) = 1
            """);
        Edges.of("Promise 20", "IllegalStateException: it does not wait.",
            "filled, failed at once, failed after a no, failed by the hour", """
            person(0, 0, 1) = 0
            crew(0, 0) = 0
            call(0, 1) = 0
            answer(0, true) = 1
            answer(0, true) ! IllegalStateException
            answer(0, false) ! IllegalStateException
            callAt(0, 0) = 1
            call(0, 0) = 1
            answer(1, true) ! IllegalStateException
            answer(1, false) ! IllegalStateException
            callAt(1, 0) = 2
            call(0, 2) = 2
            answer(2, false) = 2
            answer(2, true) ! IllegalStateException
            call(0, 3) = 3
            tick(1) = 0
            callAt(3, 0) = 0
            tick(1) = 1
            answer(3, true) ! IllegalStateException
            callAt(3, 0) = 2
            """);
    }

    private static void callAt() {
        Edges.of("Promise 21", "Of a call 0 what it is,", "waiting, filled, failed", """
            person(0, 0, 1) = 0
            crew(0, 0) = 0
            call(0, 0) = 0
            callAt(0, 0) = 2
            call(0, 1) = 1
            callAt(1, 0) = 0
            answer(1, true) = 1
            callAt(1, 0) = 1
            """);
        Edges.of("Promise 21", "1 the person who is asked, or comes (-1),",
            "person 0 asked, and coming; nobody after the last no", """
            person(0, 9, 0) = 0
            crew(0, 0) = 0
            call(0, 0) = 0
            callAt(0, 1) = 0
            answer(0, true) = 1
            callAt(0, 1) = 0
            call(0, 1) = 1
            callAt(1, 1) = 0
            answer(1, false) = 2
            callAt(1, 1) = -1
            """);
        Edges.of("Promise 21", "2 how many were asked,", "none, one, two; filled or failed", """
            crew(0, 0) = 0
            call(0, 0) = 0
            callAt(0, 2) = 0
            person(0, 9, 0) = 0
            person(0, 8, 0) = 1
            callAt(0, 2) = 0
            call(0, 0) = 1
            callAt(1, 2) = 1
            answer(1, false) = 0
            callAt(1, 2) = 2
            answer(1, false) = 2
            callAt(1, 2) = 2
            call(0, 1) = 2
            answer(2, true) = 1
            callAt(2, 2) = 1
            """);
        Edges.of("Promise 21", "3 the hour at which it asks the next one (-1).", "while it waits, filled, failed", """
            person(0, 9, 0) = 0
            crew(0, 0) = 0
            tick(3) = 0
            call(0, 0) = 0
            callAt(0, 3) = 5
            tick(1) = 0
            callAt(0, 3) = 5
            answer(0, true) = 1
            callAt(0, 3) = -1
            call(0, 1) = 1
            callAt(1, 3) = 6
            answer(1, false) = 2
            callAt(1, 3) = -1
            """);
        Edges.of("Promise 21", "3 the hour at which it asks the next one (-1).",
            "beyond the last hour, which never comes", """
            person(0, 9, 0) = 0
            crew(0, 0) = 0
            patience(48)
            """ + Edges.hours(17518) + """
            call(0, 729) = 0
            callAt(0, 3) = 17566
            tick(1) = 0
            callAt(0, 0) = 0
            callAt(0, 3) = 17566
            """);
        Edges.of("Promise 21", "IllegalArgumentException: no such call",
            "none yet, below the first, after the last", """
            callAt(0, 0) ! IllegalArgumentException
            crew(0, 0) = 0
            call(0, 0) = 0
            callAt(-1, 0) ! IllegalArgumentException
            callAt(1, 0) ! IllegalArgumentException
            callAt(60, 0) ! IllegalArgumentException
            callAt(-2147483648, 0) ! IllegalArgumentException
            callAt(2147483647, 0) ! IllegalArgumentException
            callAt(0, 0) = 2
            """);
        Edges.of("Promise 21", "or what.", "the first and last that are taken, those beside them", """
            crew(0, 0) = 0
            call(0, 0) = 0
            callAt(0, -1) ! IllegalArgumentException
            callAt(0, 4) ! IllegalArgumentException
            callAt(0, -2147483648) ! IllegalArgumentException
            callAt(0, 2147483647) ! IllegalArgumentException
            callAt(0, 0) = 2
            callAt(0, 3) = -1
            """);
    }

    private static void asked() {
        Edges.of("Promise 22", "How often a person was asked by calls.",
            "never, once, by a second call; whatever the answer was", """
            person(0, 9, 0) = 0
            person(0, 8, 0) = 1
            crew(0, 0) = 0
            asked(0) = 0
            call(0, 0) = 0
            asked(0) = 1
            asked(1) = 0
            answer(0, false) = 0
            asked(0) = 1
            asked(1) = 1
            tick(2) = 1
            asked(1) = 1
            call(0, 0) = 1
            asked(0) = 2
            answer(1, true) = 1
            asked(0) = 2
            """);
        Edges.of("Promise 22", "How often a person was asked by calls.", "by all 60 calls", """
            person(0, 0, 0) = 0
            crew(0, 0) = 0
            """ + Edges.times(60, "call(0, #) = #\nasked(0) = @"));
        Edges.of("Promise 22", "IllegalArgumentException: there is none such.",
            "none yet, below the first, after the last", """
            asked(0) ! IllegalArgumentException
            person(0, 0, 0) = 0
            asked(-1) ! IllegalArgumentException
            asked(1) ! IllegalArgumentException
            asked(20) ! IllegalArgumentException
            asked(-2147483648) ! IllegalArgumentException
            asked(2147483647) ! IllegalArgumentException
            asked(0) = 0
            """);
    }

    private static void tick() {
        Edges.of("Promise 23", "Time goes on (1 .. 2,000 hours):", "the fewest and the most", """
            person(0, 0, 0) = 0
            crew(0, 0) = 0
            tick(1) = 0
            call(0, 729) = 0
            callAt(0, 3) = 3
            answer(0, false) = 2
            tick(2000) = 0
            call(0, 729) = 1
            callAt(1, 3) = 2003
            """);
        Edges.of("Promise 23", "how many times calls went on without an answer (also those that failed then),",
            "none, one that goes on, one that fails, both, and one that goes on again and again", """
            person(1, 9, 0) = 0
            person(1, 8, 0) = 1
            person(2, 7, 0) = 2
            crew(1, 0) = 0
            crew(2, 0) = 1
            call(0, 0) = 0
            call(1, 0) = 1
            tick(1) = 0
            tick(1) = 2
            callAt(0, 0) = 0
            callAt(0, 1) = 1
            callAt(1, 0) = 2
            tick(1) = 0
            tick(1) = 1
            callAt(0, 0) = 2
            call(0, 1) = 2
            tick(4) = 2
            callAt(2, 0) = 2
            tick(2000) = 0
            """);
        Edges.of("Promise 23", "how many times calls went on without an answer (also those that failed then),",
            "what was answered is not counted, the last hour of the tick is", """
            person(0, 9, 0) = 0
            person(0, 8, 0) = 1
            crew(0, 0) = 0
            call(0, 1) = 0
            call(0, 2) = 1
            answer(0, false) = 0
            answer(1, true) = 1
            tick(1) = 0
            tick(1) = 1
            call(0, 3) = 2
            answer(2, false) = 0
            answer(2, false) = 2
            tick(2000) = 0
            """);
        Edges.of("Promise 23", "how many times calls went on without an answer (also those that failed then),",
            "twenty persons one after the other in one tick, and after the call's day is over",
            Edges.times(20, "person(0, 0, 0) = #") + """
            crew(0, 0) = 0
            call(0, 0) = 0
            tick(39) = 19
            callAt(0, 0) = 0
            callAt(0, 1) = 19
            callAt(0, 2) = 20
            tick(1) = 1
            callAt(0, 0) = 2
            call(0, 1) = 1
            tick(2000) = 20
            callAt(1, 0) = 2
            """);
        Edges.of("Promise 23", "in each hour by numbers.",
            "the lower call goes on first: it cannot ask whom the higher one still asks", """
            person(0, 9, 0) = 0
            person(0, 8, 0) = 1
            crew(0, 0) = 0
            call(0, 0) = 0
            call(0, 0) = 1
            callAt(0, 1) = 0
            callAt(1, 1) = 1
            tick(2) = 2
            callAt(0, 0) = 2
            callAt(1, 0) = 0
            callAt(1, 1) = 0
            """);
        Edges.of("Promise 23", "in each hour by numbers.",
            "an earlier hour of a higher call goes before a later hour of a lower one", """
            person(0, 9, 0) = 0
            person(0, 8, 0) = 1
            crew(0, 0) = 0
            patience(3)
            call(0, 0) = 0
            patience(2)
            call(0, 0) = 1
            callAt(0, 3) = 3
            callAt(1, 3) = 2
            tick(3) = 2
            callAt(1, 0) = 2
            callAt(0, 0) = 0
            callAt(0, 1) = 1
            callAt(0, 3) = 5
            """);
    }

    private static void tickRefuses() {
        Edges.of("Promise 23", "IndexOutOfBoundsException: the hours,",
            "the first and last that are taken, those beside them; the hour stays", """
            person(0, 0, 0) = 0
            crew(0, 0) = 0
            call(0, 0) = 0
            tick(0) ! IndexOutOfBoundsException
            tick(2001) ! IndexOutOfBoundsException
            tick(-1) ! IndexOutOfBoundsException
            tick(-2147483648) ! IndexOutOfBoundsException
            tick(2147483647) ! IndexOutOfBoundsException
            callAt(0, 0) = 0
            call(0, 1) = 1
            callAt(1, 3) = 2
            tick(1) = 0
            tick(2147483647) ! IndexOutOfBoundsException
            tick(2000) = 2
            """);
        Edges.of("Promise 23", "or beyond 17,519.", "one hour too many changes nothing, just as many are taken", """
            person(0, 0, 0) = 0
            crew(0, 0) = 0
            """ + Edges.hours(17509) + """
            call(0, 729) = 0
            tick(11) ! IndexOutOfBoundsException
            tick(2000) ! IndexOutOfBoundsException
            callAt(0, 0) = 0
            tick(10) = 1
            callAt(0, 0) = 2
            tick(1) ! IndexOutOfBoundsException
            tick(2147483647) ! IndexOutOfBoundsException
            call(0, 729) = 1
            callAt(1, 3) = 17521
            """);
    }
}
