/**
 * 'What it is', 'Terms' and 'Not promised', sentence by sentence: each sentence that names a boundary case has a run of
 * its own. Of every call that is refused, Run checks the exception's class and that the call changed nothing.
 *
 * <p>Two words cannot be told from outside and have no run: that end 0 comes first in step 3, and that an age must be
 * less than the car's own one rather than as great. News of the same age of the same car are of the same round, so
 * they have the same bytes.
 */
public final class TermsTest {
    private final Checks checks = new Checks();

    public static void main(String[] args) {
        TermsTest test = new TermsTest();
        test.calls512();
        test.callsOfEachObject();
        test.idsMasksAndEnds();
        test.couplings();
        test.views();
        test.viewOf24Cars();
        test.atFirst();
        test.notWhole();
        test.carTwice();
        test.carTwiceInFullTrain();
        test.otherWayRound();
        test.singleCar();
        test.sameDirectories();
        test.bytes();
        test.frames();
        test.stepOneHeard();
        test.stepOneSilent();
        test.stepTwoChanges();
        test.stepTwoAges();
        test.stepThreeCrosses();
        test.stepThreeNews();
        test.stateNone();
        test.stateAgreed();
        test.stateElse();
        test.stateWhenLatestFrameDiffers();
        test.exceptions();
        test.exceptionsChangeNothing();
        test.checks.end();
    }

    private Run sentence(String text) {
        checks.at("'" + text + "'");
        return new Run(checks);
    }

    private void calls512() {
        Run dearest = sentence("An object is used for at most 512 calls after it has been made");
        dearest.calls(Trains.line(Trains.from(1, 24)));
        dearest.calls(510 - dearest.made(), "rounds(200, 0) = 9200");
        dearest.calls("count(2) = 92600; count(4) = 4259600");
        checks.due("calls made", dearest.made(), 512);
        String[] lastCalls = {
            "add(7, 0) = 3", "couple(5, 1, 3, 0) = IllegalStateException", "uncouple(3, 0) = 0", "reset(3)",
            "rounds(200, 0) = 400", "coupling(5, 1) = 0", "about(3, 1) = 1", "directory(3, 2) = 5", "view(5, 1, 0) = 6",
            "put(3, 0, 9) = 77", "get(5, 1, 0) = 77", "side(3, 1, 0) = 1", "order(5, 1) = 3", "settled() = 2",
            "count(2) = 6", "put(3, 4, 0) = IllegalArgumentException", "view(3, 2, 0) = NoSuchElementException"};
        for (String lastCall : lastCalls) {
            Run run = sentence("An object is used for at most 512 calls after it has been made");
            run.calls(Trains.PAIR + "put(3, 0, 77); rounds(6, 0)");
            run.calls(511 - run.made(), "settled() = 2").calls(lastCall);
        }
    }

    private void callsOfEachObject() {
        Run other = sentence("after it has been made").calls(Trains.PAIR + "rounds(6, 0)").calls(400, "settled() = 2");
        sentence("after it has been made").calls("count(0..4) = 0").calls(400, "rounds(200, 0) = 0").calls("add(5, 0) = 1");
        checks.at("'after it has been made'");
        other.calls("count(0..4) = 2 1 6 1 12; add(7, 0) = 3; about(5, 1) = 2");
    }

    private void idsMasksAndEnds() {
        sentence("CARS have IDS 1 .. 255").calls(Trains.line(255, 1) + "rounds(6, 0); directory(255|1, 1..2) = 1 255 1 255;"
                + "view(255, 1, 0) = 2; view(1, 0, 0) = 511; order(1, 1..2) = 1 255; about(255|1, 1) = 2 1;"
                + "add(0|256, 0) = IllegalArgumentException; about(0|256, 0) = NoSuchElementException");
        sentence("a MASK of functions 0 .. 15").calls("add(1, 1); add(2, 32768); add(3, 32767); add(4, 65534);"
                + "rounds(4, 0); side(1, 1, 0|1|14|15) = 0 NONE NONE NONE; side(2, 1, 0|1|14|15) = NONE NONE NONE 15;"
                + "side(3, 1, 0|1|14|15) = 0 1 14 NONE; side(4, 1, 0|1|14|15) = NONE 1 14 15");
        sentence("2j and 2j + 1 are the left and right of one kind for j below 4, those from 8 on have no side").calls(
                Trains.line(2, 1) + "rounds(6, 0); about(1|2, 2) = 1;"
                + "side(1, 1, 0..15) = 1 0 3 2 5 4 7 6 8 9 10 11 12 13 14 15;"
                + "side(1, 2, 0..15) = 1 0 3 2 5 4 7 6 8 9 10 11 12 13 14 15");
        sentence("two ENDS 0 and 1").calls(Trains.line(1, 2) + "coupling(1, -1..2) = NoSuchElementException NONE 0 "
                + "NoSuchElementException; view(1, -1|2, 0) = NoSuchElementException; view(1, 0..1, 0) = NONE;"
                + "uncouple(1, -1|2) = NoSuchElementException; couple(1, -1|2, 2, 1) = NoSuchElementException");
    }

    private void couplings() {
        for (int ends = 0; ends < 4; ends++) {
            sentence("An end may be COUPLED to an end of another car").calls(Trains.cars(1, 2)
                    + "couple(1, " + ends / 2 + ", 2, " + ends % 2 + ") = 0; coupling(1, " + ends / 2 + ") = 0;"
                    + "coupling(2, " + ends % 2 + ") = 0; coupling(1, " + (1 - ends / 2) + ") = NONE;"
                    + "coupling(2, " + (1 - ends % 2) + ") = NONE; rounds(1, 0) = 2;"
                    + "view(1, " + ends / 2 + ", 0) = " + (4 + ends % 2) + ";"
                    + "view(2, " + ends % 2 + ", 0) = " + (2 + ends / 2));
        }
        sentence("An end may be COUPLED to an end of another car").calls("add(1, 0);"
                + "couple(1, 0..1, 1, 0..1) = IllegalStateException; coupling(1, 0..1) = NONE; count(1) = 0");
        sentence("cars that hang together are a RUN, which is never a ring").calls(Trains.line(1, 2)
                + "couple(2, 1, 1, 0) = IllegalStateException; couple(1, 0, 2, 1) = IllegalStateException;"
                + "count(3) = 1; order(1, 1..3) = 1 2 NONE");
        sentence("cars that hang together are a RUN, which is never a ring").calls(Trains.line(Trains.from(1, 24))
                + "couple(24, 1, 1, 0) = IllegalStateException; count(1) = 23; count(3) = 1");
        sentence("COUPLINGS have numbers, the least that is free.").calls(Trains.line(1, 2, 3, 4, 5)
                + "uncouple(4, 1) = 3; uncouple(2, 1) = 1; uncouple(3, 1) = 2; couple(4, 1, 5, 0) = 1;"
                + "coupling(1, 1) = 0; couple(2, 1, 3, 0) = 2; uncouple(1, 1) = 0; couple(3, 1, 4, 0) = 0;"
                + "couple(1, 1, 2, 0) = 3");
        sentence("COUPLINGS have numbers, the least that is free.").calls(Trains.line(Trains.from(1, 24))
                + "uncouple(24, 0) = 22; couple(24, 1, 23, 1) = 22; uncouple(1, 1) = 0; uncouple(24, 1) = 22;"
                + "couple(24, 1, 23, 1) = 0; couple(1, 1, 2, 0) = 22; rounds(1, 1) = 44; about(24, 6..7) = 1 1;"
                + "about(1, 6..7) = 1 0; rounds(1, 4194304) = 44; about(24, 7) = 0; about(1, 7) = 1");
    }

    private void views() {
        sentence("the cars beyond it, the nearest first, each with the end that it turns to here").calls(
                Trains.cars(1, 2, 3, 4) + "couple(1, 1, 2, 1); couple(2, 0, 3, 0); couple(3, 1, 4, 0); rounds(3, 0);"
                + "view(1, 1, 0..3) = 5 6 8 NONE; view(4, 0, 0..3) = 7 4 3 NONE; view(2, 1, 0..1) = 3 NONE;"
                + "view(2, 0, 0..2) = 6 8 NONE; view(3, 0, 0..2) = 4 3 NONE; view(3, 1, 0..1) = 8 NONE");
    }

    private void viewOf24Cars() {
        Run run = sentence("(A view has at most 24 cars: those farther are left out.)");
        run.calls(Trains.cars(1, 2) + "rounds(4, 0)");
        run.calls(11, Trains.SHUTTLE_THERE + Trains.SHUTTLE_BACK).calls(Trains.SHUTTLE_THERE);
        run.calls("about(1, 8) = 23; view(1, 0, 0..23) = 5 3 5 3 5 3 5 3 5 3 5 3 5 3 5 3 5 3 5 3 5 3 5 NONE");
        run.calls(Trains.SHUTTLE_BACK);
        run.calls("about(1, 9) = 24; view(1, 1, 0..24) = 4 2 4 2 4 2 4 2 4 2 4 2 4 2 4 2 4 2 4 2 4 2 4 2 NONE");
        run.calls(Trains.SHUTTLE_THERE);
        run.calls("about(1, 8) = 24; view(1, 0, 0..24) = 5 3 5 3 5 3 5 3 5 3 5 3 5 3 5 3 5 3 5 3 5 3 5 3 NONE");
        run.calls(Trains.SHUTTLE_BACK + "about(1, 8..9) = 24; about(2, 8..9) = 24; about(1|2, 10..11) = 1;"
                + "about(1|2, 3) = 0; view(1, 1, 23..24) = 2 NONE; rounds(4, 0) = 0; about(1|2, 8..9) = 0;"
                + "about(1|2, 3) = 1");
    }

    private void atFirst() {
        sentence("At first views are empty, not whole, and silences 0").calls("add(1, 0); about(1, 0..11) = 0;"
                + "view(1, 0..1, 0) = NONE; add(255, 65535); couple(1, 0, 255, 1); about(1|255, 0..11) = 0");
        sentence("(so of a car that comes later").calls("add(1, 0); rounds(200, 0); add(2, 0); about(2, 0..11) = 0;"
                + "view(2, 0..1, 0) = NONE; rounds(3, 0); about(2, 0..11) = 0 0 0 0 0 0 3 3 0 0 0 0; rounds(1, 0);"
                + "about(2, 0..11) = 2 1 0 1 0 1 4 4 0 0 1 1");
        sentence("(so of a car that comes later").calls("add(1, 0); rounds(200, 0); add(2, 0); couple(1, 1, 2, 0);"
                + "rounds(1, 0); about(1, 0..11) = 0 0 0 0 0 2 4 0 0 1 1 0; about(2, 0..11) = 0 0 0 0 1 0 0 1 1 0 1 0");
        sentence("an end that is not coupled falls silent, too)").calls(Trains.PAIR + "rounds(1, 0); about(5, 6..7) = 1 0;"
                + "about(3, 6..7) = 0 1; rounds(2, 0); about(5, 6..7) = 3 0; about(5, 10) = 0; rounds(1, 0);"
                + "about(5, 6..7) = 4 0; about(5, 8|10) = 0 1; about(3, 6..7) = 0 4; about(3, 9|11) = 0 1");
    }

    private void notWhole() {
        sentence("If both views are whole").calls(Trains.PAIR + "rounds(3, 0); about(5|3, 10..11) = 0; about(5|3, 3) = 0;"
                + "rounds(1, 0); about(5, 10..11) = 1 0; about(5, 3) = 0; about(3, 10..11) = 0 1; about(3, 3) = 0;"
                + "rounds(1, 0); about(5|3, 10..11) = 1; about(5|3, 3) = 2");
        sentence("else there is none.").calls(Trains.THREE + "rounds(5, 0); reset(30); about(30, 0..3) = 0;"
                + "about(20, 3) = 3; rounds(1, 0); about(20, 10..11) = 1 0; about(20, 0..3) = 0; about(10, 3) = 3;"
                + "rounds(1, 0); about(10, 10..11) = 1 0; about(10, 0..3) = 0; directory(10, 0..4) = NONE");
    }

    private void carTwice() {
        // Car 2 hears car 1 at its other end while it still sees it at the first one; car 1 sees itself behind car 2.
        sentence("and no car is in it twice").calls(Trains.cars(1, 2) + "rounds(4, 0); couple(1, 1, 2, 0); rounds(3, 0);"
                + "about(1|2, 0..3) = 2 1 0 2 2 2 0 2; uncouple(1, 1); couple(1, 1, 2, 1); rounds(1, 0);"
                + "view(2, 0..1, 0..1) = 3 NONE 3 NONE; view(1, 1, 0..2) = 5 3 NONE; about(1|2, 10..11) = 1;"
                + "about(1|2, 0..3) = 0; rounds(2, 0); about(1|2, 0..3) = 0; rounds(1, 0); about(2, 0..3) = 1 2 1 2;"
                + "about(1, 0..3) = 0; rounds(1, 0); about(1, 0..3) = 2 1 0 2");
        // Car 9 sees car 1 twice in one view, and itself but once.
        sentence("and no car is in it twice").calls(Trains.cars(1, 2, 9) + "rounds(4, 0); couple(1, 1, 2, 0) = 0;"
                + "rounds(3, 0); uncouple(1, 1); couple(1, 1, 2, 1) = 0; couple(9, 1, 1, 0) = 1; rounds(1, 0);"
                + "directory(9, 1..3) = 2 1 9; rounds(1, 0); view(9, 1, 0..3) = 2 5 3 NONE; view(9, 0, 0) = NONE;"
                + "about(9, 10..11) = 1; about(9, 0..3) = 0; directory(9, 1) = NONE");
    }

    private void carTwiceInFullTrain() {
        // The last of 24 goes to the front with the same end: its view has all 24 cars once, and it is in it itself.
        sentence("and no car is in it twice").calls(Trains.line(Trains.from(1, 24)) + "rounds(60, 0); settled() = 24;"
                + "uncouple(24, 0) = 22; couple(24, 0, 1, 0) = 22; rounds(1, 0) = 46; about(24, 8..11) = 24 0 1 1;"
                + "view(24, 0, 22..24) = 46 48 NONE; about(24, 0..3) = 0; directory(24, 1|24) = NONE;"
                + "get(24, 24, 4) = NONE; about(24, 4..5) = 1 2; about(1, 0..3) = 0; about(2, 3) = 24");
        sentence("and no car is in it twice").calls(Trains.line(Trains.from(1, 24)) + "rounds(60, 0);"
                + "uncouple(1, 1) = 0; couple(1, 1, 24, 1) = 0; rounds(1, 0) = 46; about(1, 8..11) = 0 24 1 1;"
                + "view(1, 1, 0) = 49; view(1, 1, 23) = 3; about(1, 0..3) = 0; directory(1, 1|24) = NONE");
    }

    private void otherWayRound() {
        sentence("or the other way round, if the first one's id is greater than the last one's").calls(Trains.line(1, 2)
                + "rounds(6, 0); directory(1|2, 1..2) = 1 2 1 2; about(1|2, 2) = 0; about(1|2, 1) = 1 2");
        sentence("or the other way round, if the first one's id is greater than the last one's").calls(Trains.line(2, 1)
                + "rounds(6, 0); directory(1|2, 1..2) = 1 2 1 2; about(1|2, 2) = 1; about(1|2, 1) = 1 2");
        sentence("or the other way round, if the first one's id is greater than the last one's").calls(
                Trains.line(128, 127) + "rounds(6, 0); directory(128, 1..2) = 127 128; about(127|128, 2) = 1");
        sentence("if the first one's id is greater than the last one's").calls(Trains.line(20, 90, 10, 30)
                + "rounds(9, 0); directory(90, 1..4) = 20 90 10 30; about(20|90|10|30, 2) = 0; settled() = 4");
        sentence("if the first one's id is greater than the last one's").calls(Trains.line(30, 10, 90, 20)
                + "rounds(9, 0); directory(90, 1..4) = 20 90 10 30; about(20|90|10|30, 2) = 1; settled() = 4;"
                + "about(20|90|10|30, 1) = 1 2 3 4");
        // The cars between the first and the last one do not matter.
        sentence("if the first one's id is greater than the last one's").calls(Trains.line(20, 10, 30)
                + "rounds(9, 0); directory(10, 1..3) = 20 10 30; about(20|10|30, 2) = 0; settled() = 3");
        sentence("if the first one's id is greater than the last one's").calls(Trains.line(20, 30, 10)
                + "rounds(9, 0); directory(30, 1..3) = 10 30 20; about(10|30|20, 2) = 1; settled() = 3");
        sentence("Its NUMBER is its place in that, from 1; it is FLIPPED if it was the other way round.").calls(
                Trains.cars(7, 8, 9) + "couple(7, 0, 8, 0); couple(8, 1, 9, 1); rounds(8, 0);"
                + "directory(8, 1..3) = 7 8 9; about(7|8|9, 1..2) = 1 1 2 0 3 1; settled() = 3");
    }

    private void singleCar() {
        sentence("(a single one: end 0)").calls("add(7, 65535); rounds(4, 0); directory(7, 0..2) = NONE 7 NONE;"
                + "about(7, 0..3) = 2 1 0 1; side(7, 1, 0..9) = 0 1 2 3 4 5 6 7 8 9; settled() = 1");
        sentence("(a single one: end 0)").calls(Trains.line(5, 3) + "rounds(6, 0); about(5|3, 2) = 1; uncouple(5, 1);"
                + "rounds(3, 0); about(5|3, 2) = 1; rounds(1, 0); about(5|3, 0..3) = 2 1 0 1 2 1 0 1;"
                + "side(3, 1, 0..1) = 0 1; settled() = 2");
    }

    private void sameDirectories() {
        // While car 10 hears nothing, car 20 loses car 30 and finds it again, turned: the same cars, but other ends.
        sentence("Directories are the same if they have the same cars with the same ends.").calls(Trains.THREE
                + "rounds(5, 0); get(10, 1..3, 4) = 0 1 2; uncouple(20, 1) = 1; rounds(4, 0) = 8;"
                + "couple(20, 1, 30, 1) = 1; rounds(1, 1) = 2; about(10, 0..5) = 2 1 0 3 1 3; settled() = 0;"
                + "about(20, 0..5) = 1 2 0 3 6 4; rounds(1, 0) = 4; directory(10, 1..3) = 10 20 30;"
                + "about(10, 0..5) = 2 1 0 3 1 4; get(10, 1..3, 4) = 0 1 NONE; about(20, 0..5) = 1 2 0 3 7 4;"
                + "about(30, 2) = 1; settled() = 2; rounds(1, 0) = 4; about(20, 0..5) = 2 2 0 3 7 4; settled() = 3");
    }

    private void bytes() {
        sentence("Each car has four BYTES (0 at first) to tell").calls("add(1, 0); add(2, 0); rounds(4, 0);"
                + "get(1, 1, 0..3) = 0; put(1, 0..3, 255) = 0; get(1, 1, 0..3) = 255; get(2, 1, 0..3) = 0;"
                + "put(1, 0..3, 0) = 255; put(1, -1|4, 0) = IllegalArgumentException; add(3, 0); put(3, 0..3, 1) = 0");
        sentence("of each car of its directory an AGE and four bytes, or nothing").calls(Trains.THREE + "put(20, 0, 2);"
                + "rounds(1, 0); get(10, 1..2, 4) = 0 NONE; get(10, 2, 0..3) = NONE; rounds(1, 0);"
                + "get(10, 1..3, 4) = 0 1 NONE; get(10, 2, 0..3) = 2 0 0 0; get(10, 3, 0..3) = NONE");
        sentence("its own are always there, of age 0").calls(Trains.THREE + "put(20, 1, 9); rounds(1, 0);"
                + "get(20, 1..3, 4) = NONE 0 NONE; get(20, 2, 0..3) = 0 9 0 0; rounds(200, 0); get(20, 2, 1|4) = 9 0;"
                + "uncouple(20, 1); rounds(4, 0); get(20, 1..2, 4) = NONE 0; get(20, 2, 1) = 9; put(20, 1, 8) = 9;"
                + "get(20, 2, 1) = 8; rounds(3, -1); get(20, 1..2, 4) = NONE 0");
    }

    private void frames() {
        // Whichever of two cars came first, neither tells in a round what it hears in it.
        sentence("Each car makes, from what it has ahead of it, a FRAME").calls(Trains.line(1, 2, 3, 4) + "rounds(1, 0);"
                + "about(1, 9) = 1; about(4, 8) = 1; rounds(1, 0); about(1, 9) = 2; about(4, 8) = 2; rounds(1, 0);"
                + "about(1, 9) = 3; about(4, 8) = 3");
        sentence("Each car makes, from what it has ahead of it, a FRAME").calls(Trains.line(1, 2, 3, 4) + "rounds(30, 0);"
                + "put(1, 0, 1); put(4, 0, 4); rounds(2, 0); get(3, 1, 0) = 1; get(4, 1, 0) = 0; get(2, 4, 0) = 4;"
                + "get(1, 4, 0) = 0; rounds(1, 0); get(4, 1, 0) = 1; get(1, 4, 0) = 4");
        sentence("for each end that is coupled").calls("rounds(9, 0) = 0; add(1, 0); add(2, 0); add(3, 0);"
                + "rounds(1, 0) = 0; couple(1, 0, 2, 0); rounds(1, 0) = 2; couple(2, 1, 3, 0); rounds(1, 0) = 4;"
                + "uncouple(1, 0); rounds(1, 0) = 2; uncouple(3, 0); rounds(1, 0) = 0");
        sentence("All frames come over, but those of couplings that LOSE them.").calls(Trains.THREE + "rounds(1, 2) = 2;"
                + "view(10, 1, 0..1) = 40 NONE; view(20, 0..1, 0) = 21 NONE; view(30, 0, 0) = NONE; about(20, 6..7) = 0 4;"
                + "rounds(1, 1) = 2; view(20, 1, 0) = 60; view(30, 0, 0..2) = 41 21 NONE; about(10, 6..7) = 4 1;"
                + "about(20, 6..7) = 1 0; about(30, 6..7) = 0 4");
    }

    private void stepOneHeard() {
        sentence("the view becomes the other car with its end, and behind it what the frame's view had").calls(
                Trains.THREE + "rounds(1, 0); view(10, 1, 0..1) = 40 NONE; rounds(1, 0); view(10, 1, 0..2) = 40 60 NONE;"
                + "uncouple(20, 1); rounds(4, 0); view(10, 1, 0..2) = 40 60 NONE; rounds(1, 0);"
                + "view(10, 1, 0..1) = 40 NONE");
        sentence("whole if that was").calls(Trains.line(1, 2, 3) + "rounds(4, 0); about(1, 11) = 0; about(2, 10..11) = 0;"
                + "about(3, 10..11) = 0 1; rounds(1, 0); about(2, 10..11) = 1; about(1, 11) = 0; rounds(1, 0);"
                + "about(1, 11) = 1; reset(3); rounds(1, 0); about(2, 10..11) = 1 0; about(1, 11) = 1; rounds(1, 0);"
                + "about(1, 10..11) = 1 0");
        sentence("the silence is 0.").calls(Trains.PAIR + "rounds(6, 0); rounds(3, 1); about(5, 6..7) = 4 3;"
                + "rounds(1, 0); about(5, 6..7) = 4 0; rounds(4, 1); about(5, 6..7) = 4 4; about(5, 3) = 1; rounds(1, 0);"
                + "about(5, 6..7) = 4 0; about(5, 3) = 2");
    }

    private void stepOneSilent() {
        sentence("Else the silence is one more (4 at most)").calls("add(1, 0); about(1, 6..7) = 0; rounds(1, 0);"
                + "about(1, 6..7) = 1; rounds(1, 0); about(1, 6..7) = 2; rounds(1, 0); about(1, 6..7) = 3; rounds(1, 0);"
                + "about(1, 6..7) = 4; rounds(1, 0); about(1, 6..7) = 4; rounds(200, 0); about(1, 6..7) = 4");
        sentence("at 4 the view is empty and whole.").calls(Trains.PAIR + "rounds(1, 0); about(5, 7|9|11) = 0 1 0;"
                + "rounds(3, 1); about(5, 7|9|11) = 3 1 0; view(5, 1, 0) = 6; rounds(1, 1); about(5, 7|9|11) = 4 0 1;"
                + "view(5, 1, 0) = NONE; rounds(1, 1); about(5, 7|9|11) = 4 0 1");
        sentence("at 4 the view is empty and whole.").calls("add(1, 0); rounds(3, 0); about(1, 8..11) = 0; rounds(1, 0);"
                + "about(1, 8..11) = 0 0 1 1; rounds(1, 0); about(1, 8..11) = 0 0 1 1");
        sentence("at 4 the view is empty and whole.").calls(Trains.PAIR + "rounds(6, 0); rounds(3, 1); about(5|3, 3) = 2;"
                + "about(5|3, 0) = 2; rounds(1, 1); about(5|3, 3) = 1; about(5|3, 0) = 2; about(5|3, 2) = 0");
    }

    private void stepTwoChanges() {
        sentence("If its directory is another one than before").calls(Trains.THREE + "rounds(1, 0); about(10, 3|5) = 2 2;"
                + "rounds(1, 0); about(10, 3|5) = 3 3; rounds(200, 0); about(10, 3|5) = 3 3; about(20, 5) = 2");
        sentence("or there is one where there was none").calls("add(1, 0); rounds(3, 0); about(1, 5) = 0; rounds(1, 0);"
                + "about(1, 5) = 1; rounds(200, 0); about(1, 5) = 1");
        sentence("or none where there was one").calls(Trains.THREE + "put(20, 0, 2); rounds(5, 0); reset(30);"
                + "about(10|20, 5) = 3 2; rounds(1, 0); about(20, 3|5) = 0 3; about(10, 3|5) = 3 3; rounds(1, 0);"
                + "about(20, 3|5) = 0 3; about(10, 3|5) = 0 4; rounds(1, 0); about(10, 3|5) = 0 4");
        sentence("all ages and bytes of others go: a CHANGE.").calls(Trains.THREE + "put(10, 0, 1); rounds(5, 0);"
                + "get(20, 1..3, 4) = 1 0 1; get(20, 1, 0) = 1; uncouple(20, 1); rounds(3, 0); get(20, 1..3, 4) = 1 0 4;"
                + "about(20, 5) = 2; rounds(1, 0); about(20, 5) = 3; get(20, 1..3, 4) = NONE 0 NONE;"
                + "get(20, 1, 0) = NONE; rounds(1, 0); get(20, 1, 4) = NONE; rounds(1, 0); get(20, 1, 0|4) = 1 1");
        // Car 10 comes to [10, 20, 30] in the second round and hears it told in the same one.
        sentence("all ages and bytes of others go: a CHANGE.").calls(Trains.THREE + "put(20, 3, 255); rounds(2, 0);"
                + "about(10, 3|5) = 3 3; get(10, 2, 3|4) = 255 1");
    }

    private void stepTwoAges() {
        sentence("All ages of others are one more.").calls(Trains.THREE + "rounds(9, 0); get(10, 1..3, 4) = 0 1 2;"
                + "rounds(1, -1); get(10, 1..3, 4) = 0 2 3; get(20, 1..3, 4) = 2 0 2; rounds(2, -1);"
                + "get(10, 1..3, 4) = 0 4 5; get(20, 1..3, 4) = 4 0 4; rounds(1, 0); get(10, 1..3, 4) = 0 1 5;"
                + "rounds(1, 0); get(10, 1..3, 4) = 0 1 2");
        // Car 1 hears car 2 in every fourth round, always with another directory, and so knows less and less of it.
        Run run = sentence("All ages of others are one more.");
        run.calls(Trains.cars(1, 2, 3) + "put(2, 0, 9); rounds(4, 0); couple(1, 1, 2, 0); rounds(4, 0);"
                + "get(1, 1..2, 4) = 0 1");
        run.calls(31, awayAndBack()).calls("get(1, 2, 0|4) = 9 125");
        run.calls("rounds(0, 0)").calls(32, awayAndBack()).calls("get(1, 2, 0|4) = 9 253");
        run.calls(awayAndBack() + "get(1, 2, 0|4) = 9 257; about(1, 0..5) = 1 1 0 2 65 2; get(1, 1, 4) = 0");
    }

    private static String awayAndBack() {
        return "uncouple(1, 1); couple(3, 1, 2, 0); rounds(3, 0); uncouple(3, 1); couple(1, 1, 2, 0); rounds(1, 0);";
    }

    private void stepThreeCrosses() {
        sentence("if the frame had a directory, and that is not just its own: a CROSS.").calls(Trains.PAIR
                + "rounds(4, 0); about(3|5, 4) = 0; rounds(1, 0); about(3|5, 3) = 2; about(3|5, 4) = 0; rounds(200, 0);"
                + "about(3|5, 4) = 0");
        sentence("if the frame had a directory, and that is not just its own: a CROSS.").calls(Trains.PAIR
                + "rounds(6, 0); reset(3); rounds(1, 0); about(3, 3|4) = 0 1; about(5, 3|4) = 0 0; rounds(1, 0);"
                + "about(3|5, 4) = 1 0; rounds(9, 0); about(3|5, 3) = 2; about(3, 4) = 1; about(5, 4) = 0");
        sentence("For each end at which it heard one").calls(Trains.THREE + "rounds(1, 0); about(10|20|30, 4) = 1 2 1;"
                + "rounds(1, 0); about(10|20|30, 4) = 1 4 1; rounds(200, 0); about(10|20|30, 4) = 1 4 1");
        sentence("For each end at which it heard one").calls(Trains.THREE + "rounds(1, 1); about(10|20|30, 4) = 0 1 1;"
                + "rounds(1, 3); about(10|20|30, 4) = 0 1 1");
    }

    private void stepThreeNews() {
        sentence("if the frame has an age of it").calls(Trains.THREE + "rounds(3, 0); get(20, 1..3, 4) = 1 0 1;"
                + "get(10, 1..3, 4) = 0 1 NONE; get(30, 1..3, 4) = NONE 1 0; rounds(1, 0); get(10, 3, 4) = 2;"
                + "get(30, 1, 4) = 2");
        sentence("and that + 1 is less than its own one").calls(Trains.THREE + "put(30, 0, 1); rounds(9, 0);"
                + "put(30, 0, 2); rounds(1, 2); get(20, 3, 0|4) = 1 2; get(10, 3, 0|4) = 1 2; rounds(1, 2);"
                + "get(20, 3, 0|4) = 1 3; get(10, 3, 0|4) = 1 3; rounds(1, 0); get(20, 3, 0|4) = 2 1;"
                + "get(10, 3, 0|4) = 1 4; rounds(1, 0); get(10, 3, 0|4) = 2 2");
        sentence("(or it has none)").calls(Trains.PAIR + "put(5, 3, 7); rounds(5, 0); get(3, 2, 3|4) = NONE;"
                + "rounds(1, 0); get(3, 2, 3|4) = 7 1");
        sentence("it has that + 1, and the bytes.").calls(Trains.line(1, 2, 3, 4, 5) + "put(5, 0, 50); put(5, 1, 51);"
                + "put(5, 2, 52); put(5, 3, 53); rounds(30, 0); get(1, 5, 0..4) = 50 51 52 53 4;"
                + "get(2, 5, 0..4) = 50 51 52 53 3; get(4, 5, 0..4) = 50 51 52 53 1; put(5, 3, 255); rounds(3, 0);"
                + "get(2, 5, 3) = 255; get(1, 5, 3) = 53; rounds(1, 0); get(1, 5, 0..4) = 50 51 52 255 4");
        sentence("for each other car").calls(Trains.PAIR + "put(3, 0, 1); rounds(9, 0); put(3, 0, 2); rounds(9, 0);"
                + "get(3, 1, 0|4) = 2 0; get(5, 1, 0|4) = 2 1");
    }

    private void stateNone() {
        sentence("A car's STATE is 0 if it has no directory").calls("add(1, 0); about(1, 0) = 0; rounds(3, 0);"
                + "about(1, 0) = 0; rounds(1, 0); about(1, 0) = 2; reset(1); about(1, 0) = 0");
        sentence("A car's STATE is 0 if it has no directory").calls(Trains.PAIR + "rounds(4, 0); about(3|5, 0) = 0;"
                + "rounds(1, 0); about(3|5, 0) = 1; reset(3); about(3|5, 0) = 0 1; rounds(1, 0); about(3|5, 0) = 0");
    }

    private void stateAgreed() {
        sentence("2, if at each end with a silence below 4").calls(Trains.PAIR + "rounds(6, 0); about(3|5, 0) = 2;"
                + "rounds(3, 1); about(3, 6..7) = 3 4; about(3|5, 0) = 2; rounds(1, 1); about(3, 6..7) = 4;"
                + "about(3|5, 0) = 2; about(3|5, 3) = 1; rounds(1, 0); about(3, 6..7) = 0 4; about(3|5, 0) = 1;"
                + "rounds(1, 0); about(3|5, 0) = 2");
        // What was heard last before an end fell silent was another directory than the one that is left.
        sentence("2, if at each end with a silence below 4").calls(Trains.THREE + "rounds(5, 0); rounds(4, 2);"
                + "about(30, 0..3) = 2 1 0 1; about(30, 6..7) = 4; about(20, 0..3) = 1 2 0 2; about(20, 6..7) = 0 4");
        sentence("the latest frame it heard had its directory as it is now").calls(Trains.THREE + "rounds(2, 0);"
                + "about(10|20|30, 3) = 3; about(10|20|30, 0) = 2 1 2; rounds(1, 3); about(10|20|30, 0) = 2 1 2;"
                + "rounds(1, 0); about(10|20|30, 0) = 2");
    }

    private void stateElse() {
        sentence("else 1.").calls(Trains.THREE + "rounds(2, 0); about(20, 0) = 1; rounds(1, 1); about(20, 0) = 1;"
                + "rounds(1, 2); about(20, 0) = 2");
        sentence("else 1.").calls(Trains.THREE + "rounds(2, 0); about(20, 0) = 1; rounds(1, 2); about(20, 0) = 1;"
                + "rounds(1, 1); about(20, 0) = 2");
        sentence("else 1.").calls(Trains.PAIR + "rounds(5, 0); about(3|5, 3) = 2; about(3|5, 0) = 1; rounds(3, 1);"
                + "about(3|5, 0) = 1; rounds(1, 0); about(3|5, 0) = 2");
    }

    private void stateWhenLatestFrameDiffers() {
        sentence("the latest frame it heard had its directory as it is now").calls(Trains.PAIR + "rounds(5, 0);"
                + "about(3|5, 0) = 1; uncouple(3, 0); about(3|5, 0) = 1; rounds(3, 0); about(3|5, 3) = 2;"
                + "about(3|5, 0) = 1; rounds(1, 0); about(3|5, 0) = 2");
        // Car 5 has been with a car that knows nothing, and so tells car 3 no directory; with one that knows itself,
        // and so tells another one. Car 3 keeps its own all the while.
        sentence("the latest frame it heard had its directory as it is now").calls(Trains.PAIR + "rounds(6, 0); add(9, 0);"
                + "uncouple(5, 1); couple(5, 1, 9, 0); rounds(1, 0); about(5, 3) = 0; uncouple(5, 1); couple(5, 1, 3, 0);"
                + "about(3, 0..5) = 2 1 1 2 0 1; rounds(1, 0); about(3, 0..5) = 1 1 1 2 0 1; about(5, 0) = 2;"
                + "rounds(1, 0); about(3, 0..5) = 2 1 1 2 0 1");
        sentence("the latest frame it heard had its directory as it is now").calls(Trains.PAIR + "add(9, 0); rounds(6, 0);"
                + "uncouple(5, 1); couple(5, 1, 9, 0); rounds(1, 0); about(5, 3) = 2; uncouple(5, 1); couple(5, 1, 3, 0);"
                + "about(3, 0..5) = 2 1 1 2 0 1; rounds(1, 0); about(3, 0..5) = 1 1 1 2 1 1; about(5, 0) = 2;"
                + "rounds(1, 0); about(3, 0..5) = 2 1 1 2 1 1");
    }

    private void exceptions() {
        sentence("NoSuchElementException: there is no such car or end.").calls(Trains.line(1, 255) + "rounds(6, 0);"
                + "coupling(0|2|254|256, 0) = NoSuchElementException; coupling(1|255, -1|2) = NoSuchElementException;"
                + "coupling(1|255, 0..1) = NONE 0 0 NONE");
        sentence("IllegalArgumentException, then IllegalStateException, as told.").calls(Trains.PAIR
                + "add(5, -1|65536) = IllegalArgumentException; add(5, 0) = IllegalStateException;"
                + "add(0|256, 0) = IllegalArgumentException");
        sentence("IllegalArgumentException, then IllegalStateException, as told.").calls(
                Trains.cars(Trains.from(1, 24)) + "add(25, -1|65536) = IllegalArgumentException;"
                + "add(0|256, 0) = IllegalArgumentException; add(25, 0) = IllegalStateException");
        sentence("EXCEPTIONS: NoSuchElementException").calls(Trains.PAIR
                + "about(4, -1|12) = NoSuchElementException; put(4, -1|4, 256) = NoSuchElementException;"
                + "get(4, 1, -1|5) = NoSuchElementException; side(4, 1, -1|16) = NoSuchElementException;"
                + "couple(5, 1, 4, 0) = NoSuchElementException; couple(5, 1, 3, 2) = NoSuchElementException;"
                + "couple(5, 2, 5, 0) = NoSuchElementException; uncouple(4, 0) = NoSuchElementException;"
                + "uncouple(5, 2) = NoSuchElementException");
    }

    private void exceptionsChangeNothing() {
        // A train in which all is under way: stale views, silences, losses, and news that are still travelling.
        sentence("Such a call changes nothing.").calls(Trains.THREE + "add(7, 5); put(10, 0, 1); put(20, 1, 2);"
                + "put(30, 2, 3); put(7, 3, 4); rounds(6, 0); uncouple(10, 1); couple(10, 1, 7, 1); rounds(2, 2);"
                + "add(0|256, 0) = IllegalArgumentException; add(8, -1|65536) = IllegalArgumentException;"
                + "add(7|10|20|30, 1) = IllegalStateException; couple(8, 0, 7, 0) = NoSuchElementException;"
                + "couple(7, 0, 8, 0) = NoSuchElementException; couple(7, 2, 20, 0) = NoSuchElementException;"
                + "couple(7, 0, 20, 2) = NoSuchElementException; couple(7, 0, 10, 0) = IllegalStateException;"
                + "couple(7, 1, 20, 0) = IllegalStateException; couple(20, 0, 7, 1) = IllegalStateException;"
                + "couple(20, 0, 30, 1) = IllegalStateException; couple(20, 0, 20, 0) = IllegalStateException;"
                + "uncouple(8, 0) = NoSuchElementException; uncouple(7, 2) = NoSuchElementException;"
                + "uncouple(7|10|20, 0) = IllegalStateException; reset(0|8|256) = NoSuchElementException;"
                + "rounds(-1|201, 0) = IllegalArgumentException; coupling(8, 0) = NoSuchElementException;"
                + "coupling(7, 2) = NoSuchElementException; about(8, 0) = NoSuchElementException;"
                + "about(7, -1|12) = IllegalArgumentException; directory(8, 1) = NoSuchElementException;"
                + "view(8, 0, 0) = NoSuchElementException; view(7, 2, 0) = NoSuchElementException;"
                + "put(8, 0, 0) = NoSuchElementException; put(10, -1|4, 9) = IllegalArgumentException;"
                + "put(10, 0, -1|256) = IllegalArgumentException; get(8, 1, 0) = NoSuchElementException;"
                + "get(10, 1, -1|5) = IllegalArgumentException; side(8, 1, 0) = NoSuchElementException;"
                + "side(10, 1, -1|16) = IllegalArgumentException; order(8, 1) = NoSuchElementException;"
                + "count(-1|5) = IllegalArgumentException");
    }
}
