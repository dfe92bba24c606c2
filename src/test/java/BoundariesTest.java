/**
 * The promises sentence by sentence: each sentence that names a boundary case has a run of its own, on both sides of
 * the edge. Of every call that is refused, Run checks the exception's class and that the call changed nothing.
 */
public final class BoundariesTest {
    private final Checks checks = new Checks();

    public static void main(String[] args) {
        BoundariesTest test = new BoundariesTest();
        test.promise1();
        test.promise2();
        test.promise2States();
        test.promise3();
        test.promise3States();
        test.promise4();
        test.promise4WhatStays();
        test.promise5();
        test.promise6();
        test.promise6Losses();
        test.promise7();
        test.promise8Facts();
        test.promise8Wrong();
        test.promise9();
        test.promise10();
        test.promise11();
        test.promise12();
        test.promise12Nothing();
        test.promise13();
        test.promise13Nothing();
        test.promise14();
        test.promise15();
        test.promise16();
        test.checks.end();
    }

    private Run sentence(int promise, String text) {
        checks.at("Promise " + promise + ", '" + text + "'");
        return new Run(checks);
    }

    private void promise1() {
        sentence(1, "No cars.").calls("count(0..4) = 0; settled() = 0; rounds(200, -1) = 0; count(0..4) = 0 0 200 0 0;"
                + "about(1..255, 0) = NoSuchElementException");
        sentence(1, "No cars.").calls("reset(1) = NoSuchElementException; coupling(1, 0) = NoSuchElementException;"
                + "directory(1, 1) = NoSuchElementException; view(1, 0, 0) = NoSuchElementException;"
                + "put(1, 0, 0) = NoSuchElementException; get(1, 1, 0) = NoSuchElementException;"
                + "side(1, 1, 0) = NoSuchElementException; order(1, 1) = NoSuchElementException;"
                + "couple(1, 0, 2, 0) = NoSuchElementException; uncouple(1, 0) = NoSuchElementException");
    }

    private void promise2() {
        sentence(2, "A car that is not coupled: how many there are.").calls("add(7, 0) = 1; add(200, 1) = 2;"
                + "coupling(7|200, 0..1) = NONE; couple(7, 0, 200, 0) = 0; add(9, 0) = 3; coupling(9, 0..1) = NONE;"
                + "uncouple(7, 0) = 0; add(8, 0) = 4");
        sentence(2, "IllegalArgumentException: id is not 1 .. 255").calls(
                "add(MIN|-255|-1|0|256|257|511|MAX, 0) = IllegalArgumentException; add(1, 0) = 1;"
                + "add(MIN|-1|0|256|MAX, 65535) = IllegalArgumentException; add(2, 0) = 2; add(254..255, 0) = 3 4;"
                + "order(1, 1) = 1; order(255, 1) = 255");
        sentence(2, "or mask not 0 .. 65535").calls("add(3, MIN|-65536|-1|65536|65537|MAX) = IllegalArgumentException;"
                + "add(3, 0) = 1; add(4, -1|65536) = IllegalArgumentException; add(4, 65535) = 2; rounds(4, 0);"
                + "side(3, 1, 0..15) = NONE; side(4, 1, 0..15) = 0 1 2 3 4 5 6 7 8 9 10 11 12 13 14 15");
    }

    private void promise2States() {
        sentence(2, "IllegalStateException: one has this id").calls("add(255, 1) = 1; add(1, 2) = 2;"
                + "add(255|1, 0) = IllegalStateException; rounds(4, 0); side(255, 1, 0..1) = 0 NONE;"
                + "add(255|1, 1) = IllegalStateException; add(2, 0) = 3; add(2, 0) = IllegalStateException");
        sentence(2, "IllegalArgumentException").calls("add(7, 0); add(7, -1|65536) = IllegalArgumentException;"
                + "put(7, 3, 9); add(7, 0..1) = IllegalStateException; put(7, 3, 0) = 9");
        sentence(2, "or there are 24").calls(Trains.cars(Trains.from(1, 23)) + "count(0) = 23; add(255, 0) = 24;"
                + "add(24|254, 0) = IllegalStateException; add(255, 0) = IllegalStateException; count(0) = 24");
        sentence(2, "or there are 24").calls(Trains.line(Trains.from(1, 24)) + "add(25, 0) = IllegalStateException;"
                + "uncouple(1, 1) = 0; add(25, 0) = IllegalStateException; reset(1);"
                + "add(25, 0) = IllegalStateException; count(0) = 24");
    }

    private void promise3() {
        sentence(3, "Two ends (of different cars) are coupled: the coupling's number.").calls(
                Trains.cars(1, 2, 3, 4, 5) + "couple(1, 0, 2, 0) = 0; couple(1, 1, 3, 0) = 1; couple(2, 1, 4, 1) = 2;"
                + "couple(5, 1, 4, 0) = 3; coupling(1, 0..1) = 0 1; coupling(2, 0..1) = 0 2; coupling(3, 0..1) = 1 NONE;"
                + "coupling(4, 0..1) = 3 2; coupling(5, 0..1) = NONE 3; count(1) = 4");
        sentence(3, "NoSuchElementException: cars or ends.").calls(Trains.cars(1, 255)
                + "couple(MIN|-1|0|2|254|256|MAX, 0, 1, 0) = NoSuchElementException;"
                + "couple(1, 0, MIN|-1|0|2|254|256|MAX, 0) = NoSuchElementException;"
                + "couple(1, MIN|-1|2|3|MAX, 255, 0) = NoSuchElementException;"
                + "couple(1, 0, 255, MIN|-1|2|3|MAX) = NoSuchElementException; couple(1, 1, 255, 1) = 0");
        sentence(3, "NoSuchElementException: cars or ends.").calls("add(1, 0);"
                + "couple(1, 0, 2, 5) = NoSuchElementException; couple(1, 2, 1, 0) = NoSuchElementException;"
                + "couple(1, 0, 1, 2) = NoSuchElementException; couple(2, 0, 2, 1) = NoSuchElementException");
        sentence(3, "NoSuchElementException: cars or ends.").calls(Trains.line(1, 2)
                + "couple(1, 1, 9, 0) = NoSuchElementException; couple(9, 0, 1, 1) = NoSuchElementException;"
                + "couple(1, 1, 2, 2) = NoSuchElementException; couple(2, -1, 1, 1) = NoSuchElementException");
        sentence(3, "Two ends (of different cars) are coupled").calls(Trains.cars(1, 2) + "rounds(4, 0);"
                + "couple(1, 1, 2, 0) = 0; about(1|2, 0..11) = 2 1 0 1 0 1 4 4 0 0 1 1 2 1 0 1 0 1 4 4 0 0 1 1");
    }

    private void promise3States() {
        sentence(3, "IllegalStateException: an end is coupled").calls(Trains.cars(1, 2, 3, 4)
                + "couple(1, 1, 2, 0) = 0; couple(3, 1, 4, 0) = 1;"
                + "couple(1, 1, 3, 0) = IllegalStateException; couple(3, 0, 1, 1) = IllegalStateException;"
                + "couple(2, 0, 4, 1) = IllegalStateException; couple(4, 1, 2, 0) = IllegalStateException;"
                + "couple(1, 1, 4, 0) = IllegalStateException; couple(1, 1, 2, 0) = IllegalStateException;"
                + "couple(2, 0, 1, 1) = IllegalStateException; couple(1, 0, 4, 1) = 2");
        sentence(3, "or both cars are of one run").calls(Trains.cars(1, 2, 3, 4)
                + "couple(1, 0, 1, 1) = IllegalStateException; couple(1, 1, 1, 0) = IllegalStateException;"
                + "couple(1, 0..1, 1, 0..1) = IllegalStateException; couple(1, 0, 2, 0) = 0;"
                + "couple(1, 1, 2, 1) = IllegalStateException; couple(2, 1, 1, 1) = IllegalStateException;"
                + "couple(2, 1, 3, 1) = 1; couple(3, 0, 1, 1) = IllegalStateException;"
                + "couple(1, 1, 3, 0) = IllegalStateException; couple(3, 0, 4, 1) = 2;"
                + "couple(1, 1, 4, 0) = IllegalStateException; couple(4, 0, 1, 1) = IllegalStateException;"
                + "uncouple(2, 1) = 1; couple(4, 0, 1, 1) = 1; couple(2, 1, 3, 1) = IllegalStateException");
        sentence(3, "or both cars are of one run").calls(Trains.line(Trains.from(1, 24))
                + "couple(24, 1, 1, 0) = IllegalStateException; couple(1, 0, 24, 1) = IllegalStateException;"
                + "uncouple(12, 1) = 11; couple(24, 1, 1, 0) = 11");
    }

    private void promise4() {
        sentence(4, "A coupling is parted: its number, which is free then").calls(Trains.line(1, 2, 3, 4)
                + "uncouple(2, 1) = 1; coupling(2, 0..1) = 0 NONE; coupling(3, 0..1) = NONE 2; count(1) = 2;"
                + "uncouple(2, 0) = 0; coupling(1, 1) = NONE; uncouple(3, 1) = 2; count(1) = 0; rounds(1, 0) = 0;"
                + "couple(4, 0, 1, 0) = 0");
        sentence(4, "NoSuchElementException").calls(Trains.line(1, 255)
                + "uncouple(MIN|-1|0|2|254|256|MAX, 1) = NoSuchElementException;"
                + "uncouple(1, MIN|-1|2|3|MAX) = NoSuchElementException; uncouple(1, 1) = 0");
        sentence(4, "IllegalStateException: the end is not coupled").calls(Trains.line(1, 2)
                + "uncouple(1, 0) = IllegalStateException; uncouple(2, 1) = IllegalStateException; uncouple(2, 0) = 0;"
                + "uncouple(1, 1) = IllegalStateException; uncouple(2, 0) = IllegalStateException");
    }

    private void promise4WhatStays() {
        sentence(4, "(what cars know stays till they hear, or fall silent)").calls(Trains.PAIR + "put(5, 3, 255) = 0;"
                + "rounds(6, 0) = 12; uncouple(3, 0) = 0; about(3, 0..11) = 2 1 1 2 0 1 0 4 1 0 1 1;"
                + "view(3, 0, 0) = 11; directory(3, 1..2) = 3 5; get(3, 2, 3..4) = 255 1; rounds(3, 0) = 0;"
                + "about(3, 0..11) = 2 1 1 2 0 1 3 4 1 0 1 1; view(3, 0, 0) = 11; get(3, 2, 3..4) = 255 4;"
                + "rounds(1, 0) = 0; about(3, 0..11) = 2 1 0 1 0 2 4 4 0 0 1 1; view(3, 0, 0) = NONE");
        sentence(4, "(what cars know stays till they hear, or fall silent)").calls(Trains.PAIR + "rounds(6, 0);"
                + "rounds(2, 1) = 0; uncouple(5, 1) = 0; about(5, 6..7) = 4 2; about(3, 6..7) = 2 4; rounds(1, 0);"
                + "about(5, 7) = 3; about(3, 6) = 3; about(5|3, 3) = 2; rounds(1, 0); about(5|3, 3) = 1");
        sentence(4, "(what cars know stays till they hear, or fall silent)").calls(Trains.PAIR + "add(9, 0); rounds(6, 0);"
                + "uncouple(3, 0) = 0; couple(9, 0, 3, 0) = 0; view(3, 0, 0..1) = 11 NONE; rounds(1, 0) = 2;"
                + "view(3, 0, 0..1) = 18 NONE; view(5, 1, 0..1) = 6 NONE; directory(3, 1..2) = 3 9;"
                + "directory(5, 1..2) = 3 5");
    }

    private void promise5() {
        sentence(5, "A car forgets all that it knows of others, its changes and crosses").calls(Trains.THREE
                + "put(10, 0, 1); put(30, 0, 3); rounds(5, 0); about(20, 0..11) = 2 2 0 3 4 2 0 0 1 1 1 1;"
                + "get(20, 1..3, 0) = 1 0 3; reset(20); about(20, 0..11) = 0; view(20, 0..1, 0) = NONE;"
                + "directory(20, 0..3) = NONE; get(20, 0..3, 0..4) = NONE; side(20, 0..3, 15) = NONE");
        sentence(5, "it knows as much as at first").calls("add(7, 0); reset(7); about(7, 0..11) = 0; rounds(3, 0);"
                + "about(7, 0..11) = 0 0 0 0 0 0 3 3 0 0 0 0; reset(7); rounds(3, 0);"
                + "about(7, 0..11) = 0 0 0 0 0 0 3 3 0 0 0 0; rounds(1, 0); about(7, 0..11) = 2 1 0 1 0 1 4 4 0 0 1 1;"
                + "reset(7); about(7, 0..11) = 0; rounds(4, 0); about(7, 0..11) = 2 1 0 1 0 1 4 4 0 0 1 1");
        sentence(5, "(its own bytes, mask and couplings stay)").calls(Trains.PAIR + "put(5, 0..3, 200); rounds(6, 0);"
                + "reset(5); coupling(5, 0..1) = NONE 0; coupling(3, 0) = 0; order(5, 1..3) = 3 5 NONE; rounds(7, 0) = 14;"
                + "get(5, 2, 0..4) = 200 200 200 200 0; get(3, 2, 0..4) = 200 200 200 200 1;"
                + "side(5, 2, 0..15) = 1 NONE NONE NONE NONE NONE NONE NONE NONE NONE NONE NONE NONE NONE NONE 15;"
                + "put(5, 0..3, 0) = 200");
        sentence(5, "A car forgets").calls(Trains.THREE + "rounds(5, 0); reset(20); about(10, 0..11) = "
                + "2 1 0 3 1 3 4 0 0 2 1 1; about(30, 0..11) = 2 3 0 3 1 3 0 4 2 0 1 1; get(10, 1..3, 4) = 0 1 2;"
                + "count(0..4) = 3 2 9 1 20");
        sentence(5, "NoSuchElementException.").calls(Trains.line(1, 255) + "rounds(6, 0);"
                + "reset(MIN|-1|0|2|254|256|MAX) = NoSuchElementException; reset(1); reset(255); about(1|255, 0..11) = 0");
    }

    private void promise6() {
        sentence(6, "IllegalArgumentException: n is not 0 .. 200.").calls(Trains.PAIR
                + "rounds(MIN|-200|-1|201|256|MAX, 0) = IllegalArgumentException; rounds(0, 0) = 0; count(2) = 0;"
                + "about(3, 6..7) = 0; rounds(199, 0) = 398; rounds(200, 0) = 400; count(2) = 399;"
                + "rounds(-1|201, -1) = IllegalArgumentException; count(2) = 399; count(4) = 798");
        sentence(6, "So many rounds").calls("add(1, 0); rounds(0, 0) = 0; about(1, 6) = 0; rounds(1, 0) = 0;"
                + "about(1, 6) = 1; rounds(2, 0) = 0; about(1, 6) = 3; rounds(0, -1) = 0; about(1, 6) = 3; count(2) = 3");
        sentence(6, "how many frames came over").calls(Trains.line(Trains.from(1, 24)) + "rounds(0, 0) = 0;"
                + "rounds(1, 0) = 46; rounds(200, 0) = 9200; uncouple(1, 1) = 0; rounds(200, 0) = 8800; count(4) = 18046");
    }

    private void promise6Losses() {
        Run run = sentence(6, "in which the couplings whose bits are set lose their frames")
                .calls(Trains.line(Trains.from(1, 24)));
        for (int number = 0; number <= 22; number++) {
            run.calls("rounds(1, " + (1 << number) + ") = 44; rounds(1, " + ~(1 << number) + ") = 2;"
                    + "about(" + (number + 1) + ", 7) = 0; about(" + (number + 2) + ", 6) = 0");
        }
        run.calls("rounds(1, 8388607) = 0; rounds(1, 4194305) = 42; about(1, 7) = 3; about(2, 6) = 3; about(24, 6) = 2;"
                + "about(23, 7) = 2; about(2, 7) = 0; rounds(200, 4194304) = 8800; about(24, 3) = 1; about(23, 3) = 23");
        sentence(6, "(bits of numbers that no coupling has do not matter)").calls(Trains.THREE
                + "rounds(1, -4) = 4; rounds(1, MIN) = 4; rounds(1, 8388608) = 4; rounds(1, 2147483644) = 4;"
                + "rounds(1, MAX) = 0; rounds(1, -1) = 0; uncouple(10, 1) = 0; rounds(1, 1) = 2; rounds(1, -3) = 2;"
                + "rounds(1, 2) = 0; about(20, 7) = 1; couple(10, 1, 20, 0) = 0; rounds(1, 1) = 2");
    }

    private void promise7() {
        sentence(7, "The number of an end's coupling").calls(Trains.line(Trains.from(1, 24))
                + "coupling(1..23, 1) = " + Trains.written(Trains.from(0, 22)) + ";"
                + "coupling(2..24, 0) = " + Trains.written(Trains.from(0, 22)));
        sentence(7, "NONE if it is not coupled.").calls(Trains.line(1, 2, 3) + "coupling(1, 0..1) = NONE 0;"
                + "coupling(3, 0..1) = 1 NONE; uncouple(2, 0) = 0; coupling(1, 0..1) = NONE; coupling(2, 0..1) = NONE 1;"
                + "add(4, 0); coupling(4, 0..1) = NONE");
        sentence(7, "NoSuchElementException.").calls(Trains.line(1, 255)
                + "coupling(MIN|-1|0|2|254|256|MAX, 0) = NoSuchElementException;"
                + "coupling(1|255, MIN|-1|2|3|MAX) = NoSuchElementException");
    }

    private void promise8Facts() {
        sentence(8, "1 the number (0: no directory)").calls(Trains.PAIR + "rounds(4, 0); about(5|3, 1) = 0 0;"
                + "rounds(1, 0); about(5|3, 1) = 2 1; reset(5); about(5, 1) = 0");
        sentence(8, "1 the number (0: no directory)").calls(Trains.line(Trains.from(24, 1)) + "rounds(60, 0);"
                + "about(1..24, 1) = " + Trains.written(Trains.from(1, 24)));
        sentence(8, "2 1 if it is flipped, else 0").calls(Trains.PAIR + "rounds(4, 0); about(5|3, 2) = 0 0;"
                + "rounds(1, 0); about(5|3, 2) = 1 1; reset(5); about(5, 2) = 0");
        sentence(8, "2 1 if it is flipped, else 0").calls(Trains.cars(1, 2, 3) + "couple(1, 1, 2, 1) = 0;"
                + "couple(2, 0, 3, 0) = 1; rounds(8, 0); about(1..3, 2) = 0 1 0");
        sentence(8, "3 cars in its directory (0: none)").calls("add(1, 0); rounds(3, 0); about(1, 3) = 0; rounds(1, 0);"
                + "about(1, 3) = 1; add(2, 0); couple(1, 0, 2, 0); rounds(1, 0); about(1|2, 3) = 0; rounds(4, 0);"
                + "about(1|2, 3) = 2");
        sentence(8, "3 cars in its directory (0: none)").calls(Trains.line(Trains.from(1, 24)) + "rounds(26, 0);"
                + "about(1|24, 3) = 0; rounds(1, 0); about(1|24, 3) = 24; about(12|13, 3) = 24");
        sentence(8, "6 and 7 the silences of ends 0 and 1").calls(Trains.PAIR + "rounds(3, 0); about(5, 6..7) = 3 0;"
                + "about(3, 6..7) = 0 3; rounds(1, 1); about(5, 6..7) = 4 1; about(3, 6..7) = 1 4");
        sentence(8, "8 and 9 how many cars their views have").calls(Trains.line(Trains.from(1, 24)) + "about(12, 8..9) = 0;"
                + "rounds(10, 0); about(12, 8..9) = 10 10; rounds(1, 0); about(12, 8..9) = 11 11; rounds(1, 0);"
                + "about(12, 8..9) = 11 12; rounds(40, 0); about(1, 8..9) = 0 23; about(24, 8..9) = 23 0");
        sentence(8, "10 and 11 1 if these are whole, else 0").calls(Trains.PAIR + "about(5, 10..11) = 0 0; rounds(4, 0);"
                + "about(5, 10..11) = 1 0; about(3, 10..11) = 0 1; rounds(1, 0); about(5|3, 10..11) = 1; reset(3);"
                + "about(3, 10..11) = 0 0; about(5, 10..11) = 1 1; rounds(1, 0); about(5, 10..11) = 1 0");
    }

    private void promise8Wrong() {
        sentence(8, "NoSuchElementException; IllegalArgumentException: none of these.").calls(Trains.PAIR + "rounds(6, 0);"
                + "about(MIN|-1|0|4|255|256|MAX, 0) = NoSuchElementException;"
                + "about(3, MIN|-1|12|13|MAX) = IllegalArgumentException; about(3, 0) = 2; about(3, 11) = 1;"
                + "about(4|0|256, -1|12) = NoSuchElementException");
    }

    private void promise9() {
        sentence(9, "The id at place k (from 1) of a car's directory").calls(Trains.PAIR + "rounds(6, 0);"
                + "directory(3|5, 0..3) = NONE 3 5 NONE NONE 3 5 NONE; directory(3, MIN|-1|24|25|MAX) = NONE");
        sentence(9, "The id at place k (from 1) of a car's directory").calls(Trains.line(Trains.from(255, 232))
                + "rounds(60, 0); directory(240, 0..25) = NONE " + Trains.written(Trains.from(232, 255)) + "NONE");
        sentence(9, "NONE if there is none.").calls(Trains.PAIR + "directory(3, 0..3) = NONE; rounds(4, 0);"
                + "directory(3, 0..3) = NONE; rounds(1, 0); directory(3, 1) = 3; reset(3); directory(3, 0..3) = NONE");
        sentence(9, "NONE if there is none.").calls("add(7, 0); rounds(4, 0); directory(7, 0..2) = NONE 7 NONE;"
                + "directory(7, MIN|-1|MAX) = NONE");
        sentence(9, "NoSuchElementException: car.").calls(Trains.PAIR + "rounds(6, 0);"
                + "directory(MIN|-1|0|4|255|256|MAX, 1) = NoSuchElementException;"
                + "directory(4, MIN|-1|0|MAX) = NoSuchElementException");
    }

    private void promise10() {
        sentence(10, "Place k (from 0) of a view: 2 * the id + the end that is turned to here").calls(
                Trains.cars(255, 1, 2) + "couple(255, 0, 1, 1) = 0; couple(1, 0, 2, 0) = 1; rounds(2, 0);"
                + "view(255, 0, 0..2) = 3 4 NONE; view(1, 1, 0..1) = 510 NONE; view(1, 0, 0..1) = 4 NONE;"
                + "view(2, 0, 0..2) = 2 510 NONE; view(255|2, 1, 0) = NONE; uncouple(255, 0) = 0;"
                + "couple(255, 1, 1, 1) = 0; rounds(1, 0); view(1, 1, 0..1) = 511 3");
        sentence(10, "NONE if it has none.").calls(Trains.PAIR + "view(3|5, 0..1, -1..1) = NONE; rounds(1, 0);"
                + "view(5, 1, -1..1) = NONE 6 NONE; view(5, 0, -1..1) = NONE; view(5, 1, MIN|24|25|MAX) = NONE; reset(5);"
                + "view(5, 0..1, -1..1) = NONE; rounds(1, 0); view(5, 1, 0) = 6; rounds(3, 1); view(5, 1, 0) = 6;"
                + "rounds(1, 1); view(5, 1, 0) = NONE");
        sentence(10, "NONE if it has none.").calls(Trains.line(Trains.from(1, 24)) + "rounds(60, 0);"
                + "view(1, 1, 22..24) = 48 NONE NONE; view(24, 0, 22..24) = 3 NONE NONE; view(1, 0, 0) = NONE");
        sentence(10, "NoSuchElementException: car or end.").calls(Trains.PAIR + "rounds(6, 0);"
                + "view(MIN|-1|0|4|255|256|MAX, 0, 0) = NoSuchElementException;"
                + "view(5, MIN|-1|2|3|MAX, 0) = NoSuchElementException; view(4|5, 2, -1) = NoSuchElementException");
    }

    private void promise11() {
        sentence(11, "A byte that a car has to tell: what it was.").calls(Trains.PAIR
                + "put(5, 0, 1) = 0; put(5, 1, 127) = 0; put(5, 2, 128) = 0; put(5, 3, 255) = 0;"
                + "put(5, 0, 255) = 1; put(5, 1, 128) = 127; put(5, 2, 127) = 128; put(5, 3, 1) = 255;"
                + "put(3, 0..3, 9) = 0; put(5, 0..3, 0) = 255 128 127 1; put(5, 0..3, 0) = 0; put(3, 0..3, 9) = 9");
        sentence(11, "NoSuchElementException: car.").calls(Trains.PAIR
                + "put(MIN|-1|0|4|255|256|MAX, 0, 0) = NoSuchElementException; put(4, -1|4, 0) = NoSuchElementException;"
                + "put(4, 0, -1|256) = NoSuchElementException");
        sentence(11, "IllegalArgumentException: i is not 0 .. 3").calls(Trains.PAIR + "put(3, 0..3, 77) = 0; rounds(6, 0);"
                + "put(3, MIN|-1|4|5|8|32|MAX, 5) = IllegalArgumentException; put(3, 0..3, 78) = 77");
        sentence(11, "or v not 0 .. 255").calls(Trains.PAIR + "put(3, 0..3, 77) = 0; rounds(6, 0);"
                + "put(3, 0, MIN|-256|-1|256|257|MAX) = IllegalArgumentException;"
                + "put(3, 3, -1|256) = IllegalArgumentException; put(3, 0, 0) = 77; put(3, 3, 255) = 77;"
                + "put(3, 0, 255) = 0; put(3, 3, 0) = 255; put(3, 1..2, 0) = 77");
    }

    private void promise12() {
        sentence(12, "Byte i of car number n, as a car has it (i = 4: the age)").calls(Trains.THREE
                + "put(10, 0..3, 1); put(20, 0, 0); put(20, 1, 127); put(20, 2, 128); put(20, 3, 255); put(30, 3, 3);"
                + "rounds(5, 0); get(10, 2, 0..4) = 0 127 128 255 1; get(20, 2, 0..4) = 0 127 128 255 0;"
                + "get(30, 2, 0..4) = 0 127 128 255 1; get(30, 1, 0..4) = 1 1 1 1 2; get(10, 3, 0..4) = 0 0 0 3 2;"
                + "put(20, 3, 254) = 255; get(20, 2, 3) = 254; get(10|30, 2, 3) = 255; rounds(1, 0);"
                + "get(10|30, 2, 3) = 254");
        sentence(12, "Byte i of car number n, as a car has it (i = 4: the age)").calls(Trains.line(Trains.from(1, 24))
                + "put(24, 0, 255); rounds(100, 0); get(1, 1..24, 4) = " + Trains.written(Trains.from(0, 23)) + ";"
                + "get(24, 1..24, 4) = " + Trains.written(Trains.from(23, 0)) + "; get(1, 24, 0) = 255;"
                + "put(24, 0, 254) = 255; rounds(22, 0); get(1, 24, 0) = 255; rounds(1, 0); get(1, 24, 0) = 254");
        sentence(12, "NoSuchElementException: car.").calls(Trains.PAIR + "rounds(6, 0);"
                + "get(MIN|-1|0|4|255|256|MAX, 1, 0) = NoSuchElementException; get(4, 1, -1|5) = NoSuchElementException;"
                + "get(4, 0, 0) = NoSuchElementException");
        sentence(12, "IllegalArgumentException: i is not 0 .. 4.").calls(Trains.PAIR
                + "get(3, 1, -1|5) = IllegalArgumentException; rounds(6, 0);"
                + "get(3, 1..2, MIN|-1|5|6|MAX) = IllegalArgumentException; get(3, 0|3, -1|5) = IllegalArgumentException;"
                + "get(3, 1, 0) = 0; get(3, 2, 4) = 1");
    }

    private void promise12Nothing() {
        sentence(12, "NONE if it has nothing of it").calls(Trains.THREE + "put(30, 0, 3); rounds(3, 0);"
                + "get(10, 2, 4) = 1; get(10, 3, 0..4) = NONE; rounds(1, 0); get(10, 3, 0..4) = 3 0 0 0 2;"
                + "uncouple(30, 0); rounds(5, 0); get(10, 1..3, 4) = 0 1 NONE; get(30, 1, 4) = 0");
        sentence(12, "or no such number").calls(Trains.PAIR + "put(3, 0, 8); get(3, 0..3, 0..4) = NONE; rounds(4, 0);"
                + "get(3, 0..3, 0..4) = NONE; rounds(2, 0); get(3, MIN|-1|0|3|4|24|25|MAX, 0) = NONE;"
                + "get(3, MIN|-1|0|3|4|24|25|MAX, 4) = NONE; get(3, 1..2, 0) = 8 0; reset(3); get(3, 0..3, 0..4) = NONE");
        sentence(12, "(of itself the age is 0)").calls("add(7, 0); put(7, 0, 200); rounds(3, 0); get(7, 1, 0..4) = NONE;"
                + "rounds(1, 0); get(7, 1, 0..4) = 200 0 0 0 0; rounds(200, 0); get(7, 1, 0..4) = 200 0 0 0 0");
        sentence(12, "(of itself the age is 0)").calls(Trains.THREE + "rounds(9, 0); get(10, 1, 4) = 0; get(20, 2, 4) = 0;"
                + "get(30, 3, 4) = 0; rounds(3, -1); get(10, 1..3, 4) = 0 4 5; get(30, 1..3, 4) = 5 4 0");
    }

    private void promise13() {
        sentence(13, "that function, or, below 8 and if car n is flipped, the other one of its kind").calls(
                "add(1, 65535); add(2, 65535); couple(1, 1, 2, 1); rounds(6, 0); about(1|2, 2) = 0 1;"
                + "side(1, 1, 0..15) = 0 1 2 3 4 5 6 7 8 9 10 11 12 13 14 15;"
                + "side(1, 2, 0..15) = 1 0 3 2 5 4 7 6 8 9 10 11 12 13 14 15;"
                + "side(2, 1, 0..15) = 0 1 2 3 4 5 6 7 8 9 10 11 12 13 14 15;"
                + "side(2, 2, 0..15) = 1 0 3 2 5 4 7 6 8 9 10 11 12 13 14 15");
        sentence(13, "as a function is on car number 1 when that one is not flipped").calls(
                "add(1, 65535); add(2, 65535); couple(1, 0, 2, 0); rounds(6, 0); about(1|2, 2) = 1 0;"
                + "side(1|2, 1, 6..9) = 7 6 8 9 7 6 8 9; side(1|2, 2, 6..9) = 6 7 8 9 6 7 8 9");
        sentence(13, "NoSuchElementException: car.").calls(Trains.PAIR + "rounds(6, 0);"
                + "side(MIN|-1|0|4|255|256|MAX, 1, 0) = NoSuchElementException; side(4, 1, -1|16) = NoSuchElementException");
        sentence(13, "IllegalArgumentException: function is not 0 .. 15.").calls(Trains.PAIR
                + "side(3, 1, -1|16) = IllegalArgumentException; rounds(6, 0);"
                + "side(3, 1, MIN|-1|16|17|32|MAX) = IllegalArgumentException; side(3, 0|3, -1|16) = IllegalArgumentException;"
                + "side(3, 1, 0) = 1; side(3, 1, 15) = 15");
    }

    private void promise13Nothing() {
        sentence(13, "NONE if there is no such number").calls(Trains.PAIR + "side(3, 0..3, 15) = NONE; rounds(4, 0);"
                + "side(3, 0..3, 15) = NONE; rounds(1, 0); side(3, MIN|-1|0|3|4|24|25|MAX, 15) = NONE;"
                + "side(3, 1..2, 15) = 15; reset(3); side(3, 0..3, 15) = NONE");
        sentence(13, "or that car has no such function").calls("add(1, 33025); add(2, 33153); couple(1, 1, 2, 1);"
                + "rounds(6, 0); about(1|2, 2) = 0 1;"
                + "side(1, 1, 0..15) = 0 NONE NONE NONE NONE NONE NONE NONE 8 NONE NONE NONE NONE NONE NONE 15;"
                + "side(1, 2, 0..15) = NONE 0 NONE NONE NONE NONE 7 NONE 8 NONE NONE NONE NONE NONE NONE 15");
        sentence(13, "or that car has no such function").calls("add(1, 0); add(2, 32767); rounds(4, 0);"
                + "side(1, 1, 0..15) = NONE; side(2, 1, 14..15) = 14 NONE");
    }

    private void promise14() {
        sentence(14, "The id at place k (from 1) of the run in which a car truly is").calls(Trains.cars(1, 2, 3)
                + "order(1..3, 1) = 1 2 3; couple(3, 0, 2, 0); order(1, 0..2) = NONE 1 NONE;"
                + "order(2|3, 0..3) = NONE 2 3 NONE NONE 2 3 NONE; couple(2, 1, 1, 0);"
                + "order(1|2|3, 1..3) = 1 2 3 1 2 3 1 2 3; rounds(20, -1); order(3, 1..3) = 1 2 3; reset(2);"
                + "order(2, 1..3) = 1 2 3; uncouple(2, 0); order(3, 1..2) = 3 NONE; order(2, 1..3) = 1 2 NONE");
        sentence(14, "from the end with the lesser id").calls(Trains.line(128, 255, 1, 127)
                + "order(1, 1..4) = 127 1 255 128; uncouple(127, 0); order(255, 1..3) = 1 255 128;"
                + "uncouple(1, 0); order(255, 1..2) = 128 255");
        sentence(14, "NONE if it is not so long.").calls(Trains.line(5, 3) + "order(3, MIN|-1|0|3|4|24|25|MAX) = NONE;"
                + "order(3, 1..2) = 3 5; add(7, 0); order(7, MIN|-1|0|2|24|MAX) = NONE");
        sentence(14, "NONE if it is not so long.").calls(Trains.line(Trains.from(24, 1))
                + "order(12, 0..25) = NONE " + Trains.written(Trains.from(1, 24)) + "NONE");
        sentence(14, "NoSuchElementException: car.").calls(Trains.PAIR
                + "order(MIN|-1|0|4|255|256|MAX, 1) = NoSuchElementException; order(4, MIN|0|3) = NoSuchElementException");
    }

    private void promise15() {
        sentence(15, "How many cars are in state 2").calls(Trains.PAIR + "settled() = 0; rounds(4, 0); settled() = 0;"
                + "rounds(1, 0); about(3|5, 0) = 1; directory(3, 1..2) = 3 5; settled() = 0; rounds(1, 0);"
                + "about(3|5, 0) = 2; settled() = 2; add(9, 0); settled() = 2; rounds(3, 0); settled() = 2; rounds(1, 0);"
                + "settled() = 3");
        sentence(15, "with a directory that is the true order of their run").calls(Trains.PAIR + "rounds(6, 0);"
                + "settled() = 2; uncouple(5, 1); about(3|5, 0) = 2; settled() = 0; rounds(3, 0); about(3|5, 0) = 2;"
                + "settled() = 0; rounds(1, 0); settled() = 2; couple(5, 1, 3, 0); about(3|5, 0) = 2; settled() = 0");
        sentence(15, "with the true ends").calls(Trains.PAIR + "rounds(6, 0); uncouple(5, 1); couple(5, 1, 3, 1);"
                + "order(3, 1..2) = 3 5; directory(3, 1..2) = 3 5; about(3|5, 0) = 2; settled() = 0; uncouple(5, 1);"
                + "couple(5, 0, 3, 0); about(3|5, 0) = 2; settled() = 0; uncouple(5, 0); couple(3, 0, 5, 1);"
                + "settled() = 2");
        // Car k of 24 knows the whole run after k + 3 or 28 - k rounds, and a neighbour hears that a round later: after
        // 26 rounds three cars at each end do not yet agree, after 27 only the second from each end.
        sentence(15, "How many cars").calls(Trains.line(Trains.from(1, 24)) + "rounds(26, 0); settled() = 18;"
                + "rounds(1, 0); settled() = 22; rounds(1, 0); settled() = 24; rounds(200, 0); settled() = 24;"
                + "uncouple(1, 1); settled() = 0");
    }

    private void promise16() {
        sentence(16, "0 cars").calls("count(0) = 0; add(1, 0); count(0) = 1; add(1, 0) = IllegalStateException;"
                + "count(0) = 1; add(2, 0); count(0) = 2; couple(1, 0, 2, 0); count(0) = 2; uncouple(1, 0); count(0) = 2");
        sentence(16, "0 cars").calls(Trains.cars(Trains.from(1, 24)) + "count(0) = 24");
        sentence(16, "1 couplings").calls("count(1) = 0;" + Trains.line(Trains.from(1, 24)) + "count(1) = 23;"
                + "uncouple(5, 1) = 4; count(1) = 22; uncouple(5, 0) = 3; count(1) = 21; couple(1, 0, 5, 1) = 3;"
                + "count(1) = 22");
        sentence(16, "2 rounds").calls("count(2) = 0; rounds(0, 0); count(2) = 0; rounds(1, 0); count(2) = 1;"
                + "rounds(200, -1); count(2) = 201; rounds(201, 0) = IllegalArgumentException; count(2) = 201; add(1, 0);"
                + "reset(1); count(2) = 201");
        sentence(16, "3 runs").calls("count(3) = 0; add(1, 0); count(3) = 1; add(2, 0); add(3, 0); count(3) = 3;"
                + "couple(1, 0, 3, 0); count(3) = 2; couple(1, 1, 2, 0); count(3) = 1; rounds(9, -1); count(3) = 1;"
                + "uncouple(3, 0); count(3) = 2; uncouple(2, 0); count(3) = 3");
        sentence(16, "4 frames that came over in all").calls(Trains.THREE + "count(4) = 0; rounds(1, 0) = 4; count(4) = 4;"
                + "rounds(200, 1) = 400; count(4) = 404; rounds(10, 3) = 0; count(4) = 404; reset(20); rounds(0, 0);"
                + "count(4) = 404; uncouple(10, 1); count(4) = 404; rounds(1, 0) = 2; count(4) = 406");
        sentence(16, "IllegalArgumentException: none of these.").calls(Trains.PAIR + "rounds(6, 0);"
                + "count(MIN|-1|5|6|MAX) = IllegalArgumentException; count(0..4) = 2 1 6 1 12");
    }
}
