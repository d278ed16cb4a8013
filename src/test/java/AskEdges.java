import java.util.NoSuchElementException;

/** What is asked of a walk's steps: what the terms and promises 15 to 18 say of their edges. */
final class AskEdges {
    private static final int NONE = WaveWalk.NONE;
    private static final int LEAST = Integer.MIN_VALUE;
    private static final int MOST = Integer.MAX_VALUE;
    private static final long MOST_WEIGHT = 4611686018427387904L;
    private static final long NINE_TO_THE_19TH = 1350851717672992089L;
    private static final Class<NoSuchElementException> NO_SUCH = NoSuchElementException.class;
    private static final Class<IllegalArgumentException> ILLEGAL = IllegalArgumentException.class;
    private static final int[] NOT_STEPS = {-1, 61, 62, LEAST, MOST};
    private final Due due;

    AskEdges(Due due) {
        this.due = due;
    }

    void terms(Sentences s) {
        s.hold("From a WALK as it is, on a copy:", this::onACopy);
        s.hold("ARRIVES at a PLACE: the least number of STEPS, from 0 on, behind which all other PLACES have a SHARE of 0",
            this::arrivesLeast);
        s.hold("(and this one not).", this::arrivesNowhere);
        s.hold("RETURNS: the least number from 1 on behind which the WAVE is a multiple of the one that it is now.", this::returnsLeast);
        s.hold("BEST: that number of STEPS, from 0 on, behind which the SHARE of all MARKED PLACES together, by the WEIGHT, is greatest,",
            this::bestByWeight);
        s.hold("of like ones the least.", this::bestOfLikeOnes);
        s.hold("MEAN of a PLACE over k STEPS: the sum of its SHARES by WEIGHT now and behind 1 to k STEPS,", this::meanOverFewSteps);
        s.hold("all brought to the WEIGHT behind k STEPS (the SHARE behind i STEPS is taken SCALE to the power of k - i times).",
            this::meanByScale);
        s.hold("Each for at most a told number of STEPS,", this::atMostSoMany);
        s.hold("as far as the WALK goes on.", this::asFarAsItGoesOn);
        s.hold("The constants: `NONE = -1`: There is none.", () -> due.is("NONE", WaveWalk.NONE, -1));
    }

    void promises(Sentences s) {
        s.section("Promise 15: arrives");
        s.hold("ARRIVES, within so many STEPS: NONE: it doesn't.", this::arrivesWithin);
        s.hold("IllegalArgumentException: most is not 0 to 60.", this::arrivesNotAsTold);
        s.section("Promise 16: returns");
        s.hold("RETURNS likewise.", this::returnsLikewise);
        s.hold("NONE also if WEIGHT is 0.", this::returnsWithWeightZero);
        s.section("Promise 17: best");
        s.hold("BEST likewise", this::bestLikewise);
        s.hold("(NONE if WEIGHT is 0).", this::bestWithWeightZero);
        s.section("Promise 18: mean");
        s.hold("MEAN over k STEPS", this::meanOverNoneAndAll);
        s.hold("(0 if WEIGHT is 0 and TIME doesn't go above 60 by k).", this::meanWithWeightZero);
        s.hold("NONE: the WALK doesn't go on so far,", this::meanTooFar);
        s.hold("or the sum would be above 4611686018427387904.", this::meanTooGreat);
        s.hold("IllegalArgumentException: k is not 0 to 60.", this::meanNotAsTold);
    }

    /** A row of three with its end marked, all at the other end: the marked share is 0, 0, 1/4, 1/4, 5/16. */
    private static WaveWalk markedEnd() {
        WaveWalk x = Made.row(3);
        x.mark(0, 2, true);
        x.walk(0);
        x.set(0, 0, 0, 1);
        return x;
    }

    private void onACopy() {
        for (int time : new int[] {0, 1, 30, 60}) {
            WaveWalk x = markedEnd();
            x.walk(0);
            x.step(0, time);
            String ahead = Seen.of(x);
            x.arrives(0, 1, 60);
            x.returns(0, 60);
            x.best(0, 60);
            x.mean(0, 0, 60);
            x.mean(0, 0, 1);
            due.isTrue("nothing changes at time " + time, ahead.equals(Seen.of(x)));
        }
        WaveWalk x = Made.goingToAndFro(2);
        x.step(0, 1);
        due.is("from now on, there", x.arrives(0, 1, 60), 0);
        due.is("from now on, back", x.arrives(0, 0, 60), 1);
        due.is("asked again", x.arrives(0, 0, 60), 1);
        due.is("between others", x.returns(0, 60), 2);
    }

    private void arrivesLeast() {
        for (int doors = 2; doors <= 4; doors++) {
            WaveWalk x = Made.goingToAndFro(doors);
            due.is("0 of 0, 2, 4, ..", x.arrives(0, 0, 60), 0);
            due.is("1 of 1, 3, 5, ..", x.arrives(0, 1, 60), 1);
        }
        WaveWalk one = Made.onePlace(2);
        due.is("the only place", one.arrives(0, 0, 60), 0);
        WaveWalk x = new WaveWalk();
        x.net(12, 2);
        x.walk(0);
        x.set(0, 11, 1, -1);
        due.is("the last place", x.arrives(0, 11, 0), 0);
        due.is("the first place", x.arrives(0, 0, 60), NONE);
        x.set(0, 0, 0, 1);
        due.is("the first place has a share too", x.arrives(0, 11, 60), NONE);
        due.is("so it is with that one", x.arrives(0, 0, 60), NONE);
        WaveWalk far = Made.row(2);
        far.walk(0);
        Made.tell(far, 0, 2, 1, 1);
        // Behind a step all that leads on is 0, and what stays is all.
        due.is("it is there", far.arrives(0, 0, 60), 0);
        far.step(0, 1);
        due.is("and stays", far.arrives(0, 0, 60), 0);
    }

    private void arrivesNowhere() {
        WaveWalk x = Made.twoPlaces(2);
        x.walk(0);
        for (int most : new int[] {0, 1, 60}) {
            due.is("with weight 0 at place 0", x.arrives(0, 0, most), NONE);
            due.is("with weight 0 at place 1", x.arrives(0, 1, most), NONE);
        }
        WaveWalk one = new WaveWalk();
        one.net(1, 2);
        one.walk(0);
        due.is("no others, and nothing there", one.arrives(0, 0, 60), NONE);
        one.set(0, 0, 1, 1);
        due.is("no others, and something there", one.arrives(0, 0, 0), 0);
    }

    private void returnsLeast() {
        WaveWalk four = Made.onePlace(4);
        due.is("2 of 2, 4, 6, ..", four.returns(0, 60), 2);
        four.spread(0, -100);
        due.is("1, not 0", four.returns(0, 60), 1);
        WaveWalk two = Made.onePlace(2);
        int[][] told = {{1, 0}, {0, 1}, {1, 1}, {-100, 100}};
        for (int[] each : told) {
            Made.tell(two, 0, 2, each);
            due.is("some numbers 0, some not", two.returns(0, 60), 2);
        }
        WaveWalk three = Made.onePlace(3);
        Made.tell(three, 0, 3, 1, -1, 0);
        due.is("-3 times as much", three.returns(0, 60), 1);
        three.step(0, 1);
        due.is("is -3", three.at(0, 0, 0), -3);
        returnsOnARing();
    }

    /** Door 0 of each place leads to door 1 of the next one; walk 0 has 1 at door 0 of place 0. */
    private static WaveWalk ringOfEight() {
        WaveWalk x = new WaveWalk();
        x.net(8, 2);
        for (int place = 0; place < 8; place++) {
            x.join(0, place, 0, (place + 1) % 8, 1);
        }
        x.walk(0);
        x.set(0, 0, 0, 1);
        return x;
    }

    private void returnsOnARing() {
        WaveWalk x = ringOfEight();
        due.is("24", x.returns(0, 60), 24);
        due.is("within 24", x.returns(0, 24), 24);
        due.is("within 23", x.returns(0, 23), NONE);
        x.spread(0, 1);
        due.is("-4 times as much", x.returns(0, 60), 4);
        x.step(0, 4);
        due.is("is -4", x.at(0, 7, 1), -4);
    }

    private void bestByWeight() {
        WaveWalk x = markedEnd();
        int[] want = {0, 0, 2, 2, 4};
        for (int most = 0; most < want.length; most++) {
            due.is("within " + most, x.best(0, most), want[most]);
        }
        long[] shares = {0, 0, 1, 2, 5};
        for (int time = 0; time < shares.length; time++) {
            due.is("share at " + time, x.share(0, 2), shares[time]);
            x.step(0, 1);
        }
        WaveWalk both = Made.row(3);
        both.mark(0, 0, true);
        both.mark(0, 2, true);
        both.walk(0);
        both.set(0, 1, 0, 1);
        due.is("half at each of two", both.best(0, 60), 1);
        both.step(0, 1);
        due.is("is there now", both.best(0, 60), 0);
    }

    private void bestOfLikeOnes() {
        WaveWalk x = Made.goingToAndFro(2);
        due.is("none marked", x.best(0, 60), 0);
        WaveWalk y = Made.twoPlaces(3);
        y.mark(0, 0, true);
        y.mark(0, 1, true);
        y.walk(0);
        y.spread(0, 7);
        due.is("all marked", y.best(0, 60), 0);
        WaveWalk z = Made.twoPlaces(4);
        z.mark(0, 1, true);
        z.walk(0);
        z.set(0, 0, 3, -1);
        due.is("1 of 1, 3, 5, ..", z.best(0, 60), 1);
        z.step(0, 1);
        due.is("0 of 0, 2, 4, ..", z.best(0, 60), 0);
        z.spread(0, 1);
        due.is("always a half", z.best(0, 60), 0);
    }

    private void meanOverFewSteps() {
        WaveWalk x = Made.goingToAndFro(2);
        x.set(0, 0, 0, -3);
        due.is("now alone", x.mean(0, 0, 0), 9);
        due.is("now alone, there", x.mean(0, 1, 0), 0);
        due.is("over 1", x.mean(0, 0, 1), 18);
        due.is("over 1, there", x.mean(0, 1, 1), 18);
        due.is("over 2", x.mean(0, 0, 2), 72);
        due.is("over 2, there", x.mean(0, 1, 2), 36);
        x.step(0, 1);
        due.is("from now on", x.mean(0, 0, 1), 36);
        due.is("from now on, there", x.mean(0, 1, 1), 36);
        due.is("now alone, there", x.mean(0, 1, 0), 18);
    }

    private void meanByScale() {
        long[] scales = {2, 9, 4};
        for (int doors = 2; doors <= 4; doors++) {
            long scale = scales[doors - 2];
            WaveWalk x = Made.goingToAndFro(doors);
            long there = 0;
            long weight = 1;
            for (int k = 0; k < 15; k++) {
                // At even times all is at place 0: k / 2 + 1 of those from 0 to k.
                due.is("over " + k, x.mean(0, 0, k), weight * (k / 2 + 1));
                due.is("over " + k + ", there", x.mean(0, 1, k), weight * there);
                there = (k + 2) / 2;
                weight *= scale;
            }
        }
    }

    private void atMostSoMany() {
        WaveWalk x = markedEnd();
        due.is("best within 1", x.best(0, 1), 0);
        due.is("best within 2", x.best(0, 2), 2);
        WaveWalk y = Made.goingToAndFro(3);
        due.is("arrives within 0", y.arrives(0, 1, 0), NONE);
        due.is("arrives within 1", y.arrives(0, 1, 1), 1);
        due.is("returns within 1", y.returns(0, 1), NONE);
        due.is("returns within 2", y.returns(0, 2), 2);
        due.is("mean over 1", y.mean(0, 0, 1), 9);
    }

    private void asFarAsItGoesOn() {
        // By time: at 58 there are two steps left, at 59 one, at 60 none.
        WaveWalk x = Made.goingToAndFro(2);
        x.step(0, 58);
        due.is("returns from 58", x.returns(0, 60), 2);
        x.step(0, 1);
        due.is("returns from 59", x.returns(0, 60), NONE);
        due.is("arrives from 59", x.arrives(0, 0, 60), 1);
        x.step(0, 1);
        due.is("arrives from 60", x.arrives(0, 1, 60), NONE);
        due.is("is there at 60", x.arrives(0, 0, 60), 0);
        // By weight: 4 to the 31st is the last.
        WaveWalk y = Made.goingToAndFro(4);
        y.step(0, 29);
        due.is("returns from 4 to the 29th", y.returns(0, 60), 2);
        y.step(0, 1);
        due.is("returns from 4 to the 30th", y.returns(0, 60), NONE);
        due.is("arrives from 4 to the 30th", y.arrives(0, 1, 60), 1);
        y.step(0, 1);
        due.is("arrives from 4 to the 31st", y.arrives(0, 0, 60), NONE);
        due.is("is there at 4 to the 31st", y.arrives(0, 1, 60), 0);
        WaveWalk z = Made.goingToAndFro(3);
        z.step(0, 18);
        due.is("arrives from 9 to the 18th", z.arrives(0, 1, 60), 1);
        due.is("returns from 9 to the 18th", z.returns(0, 60), NONE);
        z.step(0, 1);
        due.is("arrives from 9 to the 19th", z.arrives(0, 0, 60), NONE);
        bestAsFarAsItGoesOn();
    }

    private void bestAsFarAsItGoesOn() {
        int[] last = {60, 19, 31};
        for (int doors = 2; doors <= 4; doors++) {
            int end = last[doors - 2];
            WaveWalk x = Made.twoPlaces(doors);
            // What is marked is where the wave would be behind one step more.
            x.mark(0, 1 - end % 2, true);
            x.walk(0);
            x.set(0, 0, 0, 1);
            x.step(0, end - 2);
            due.is("two are left", x.best(0, 60), 1);
            x.step(0, 1);
            due.is("is there with one left", x.best(0, 60), 0);
            x.step(0, 1);
            due.is("none is left", x.best(0, 60), 0);
            due.is("it is not there", x.share(0, 1 - end % 2), 0);
        }
    }

    private void arrivesWithin() {
        // Whatever is told, the least number that is within it.
        WaveWalk x = Made.goingToAndFro(2);
        for (int most : new int[] {1, 2, 59, 60}) {
            due.is("within " + most, x.arrives(0, 1, most), 1);
        }
        due.is("within 0", x.arrives(0, 1, 0), NONE);
        WaveWalk never = new WaveWalk();
        never.net(2, 2);
        never.walk(0);
        never.set(0, 0, 0, 1);
        due.is("never", never.arrives(0, 1, 60), NONE);
        x.step(0, 59);
        due.is("the last step of all", x.arrives(0, 0, 1), 1);
        due.is("told more than there are", x.arrives(0, 0, 60), 1);
        due.is("told none", x.arrives(0, 0, 0), NONE);
        WaveWalk late = ringOfEight();
        late.step(0, 1);
        due.is("23 steps", late.arrives(0, 0, 60), 23);
        due.is("within 23", late.arrives(0, 0, 23), 23);
        due.is("within 22", late.arrives(0, 0, 22), NONE);
    }

    private void arrivesNotAsTold() {
        WaveWalk x = Made.goingToAndFro(2);
        for (int most : NOT_STEPS) {
            due.refuses("most " + most, x, () -> x.arrives(0, 0, most), ILLEGAL);
        }
        x.spread(0, 0);
        due.refuses("with weight 0 as well", x, () -> x.arrives(0, 0, 61), ILLEGAL);
        due.refuses("at no place as well", x, () -> x.arrives(0, 2, 61), NO_SUCH);
        due.refuses("at place NONE", x, () -> x.arrives(0, NONE, 1), NO_SUCH);
        due.refuses("of no walk", x, () -> x.arrives(1, 0, 1), NO_SUCH);
        due.is("60 is as told", x.arrives(0, 0, 60), NONE);
    }

    private void returnsLikewise() {
        WaveWalk x = Made.goingToAndFro(2);
        due.is("within 0", x.returns(0, 0), NONE);
        due.is("within 1", x.returns(0, 1), NONE);
        due.is("within 2", x.returns(0, 2), 2);
        due.is("within 60", x.returns(0, 60), 2);
        for (int most : NOT_STEPS) {
            due.refuses("most " + most, x, () -> x.returns(0, most), ILLEGAL);
        }
        due.refuses("of no walk as well", x, () -> x.returns(1, 61), NO_SUCH);
        // Great numbers, whose products come near to the end of 64 bits.
        WaveWalk great = Made.onePlace(2);
        Made.tell(great, 0, 2, 2, 0);
        great.step(0, 58);
        due.is("from 2 to the 30th to the 31st", great.returns(0, 60), 2);
        great.step(0, 1);
        due.is("one step left does not do", great.returns(0, 60), NONE);
        WaveWalk four = Made.onePlace(4);
        four.spread(0, 1);
        four.step(0, 29);
        due.is("from 2 to the 29th to the 30th", four.returns(0, 60), 1);
        four.step(0, 1);
        due.is("the weight is 2 to the 62nd", four.returns(0, 60), NONE);
    }

    private void returnsWithWeightZero() {
        WaveWalk x = Made.goingToAndFro(2);
        x.step(0, 7);
        x.spread(0, 0);
        for (int most : new int[] {0, 1, 2, 60}) {
            due.is("within " + most, x.returns(0, most), NONE);
        }
        for (int most : NOT_STEPS) {
            due.refuses("most " + most, x, () -> x.returns(0, most), ILLEGAL);
        }
    }

    private void bestLikewise() {
        WaveWalk x = Made.twoPlaces(2);
        x.mark(0, 1, true);
        x.walk(0);
        x.set(0, 0, 0, 1);
        due.is("within 0", x.best(0, 0), 0);
        due.is("within 1", x.best(0, 1), 1);
        due.is("within 60", x.best(0, 60), 1);
        for (int most : NOT_STEPS) {
            due.refuses("most " + most, x, () -> x.best(0, most), ILLEGAL);
        }
        due.refuses("of no walk as well", x, () -> x.best(1, 61), NO_SUCH);
        // Great shares, whose products with great weights wrap around.
        x.step(0, 58);
        due.is("at great weights", x.best(0, 60), 1);
        x.step(0, 1);
        due.is("at greater ones", x.best(0, 60), 0);
        WaveWalk greatest = new WaveWalk();
        greatest.net(12, 4);
        greatest.join(0, 0, 3, 11, 0);
        greatest.mark(0, 11, true);
        greatest.walk(0);
        greatest.set(0, 0, 0, 1);
        due.is("the last of twelve places is marked", greatest.best(0, 1), 1);
    }

    private void bestWithWeightZero() {
        WaveWalk x = Made.twoPlaces(2);
        x.mark(0, 0, true);
        x.walk(0);
        for (int most : new int[] {0, 1, 60}) {
            due.is("within " + most, x.best(0, most), NONE);
        }
        for (int most : NOT_STEPS) {
            due.refuses("most " + most, x, () -> x.best(0, most), ILLEGAL);
        }
        x.set(0, 1, 1, 1);
        due.is("weight 1, none at the marked one", x.best(0, 0), 0);
    }

    private void meanOverNoneAndAll() {
        WaveWalk x = new WaveWalk();
        x.net(2, 2);
        x.walk(0);
        x.set(0, 0, 0, 2);
        due.is("over 0", x.mean(0, 0, 0), 4);
        due.is("over 60 where nothing comes", x.mean(0, 1, 60), 0);
        x.step(0, 60);
        due.is("over 0 at time 60", x.mean(0, 0, 0), MOST_WEIGHT);
        due.is("over 0 there at time 60", x.mean(0, 1, 0), 0);
        WaveWalk first = Made.goingToAndFro(2);
        due.is("30 times 2 to the 60th is too great", first.mean(0, 1, 60), NONE);
        first.step(0, 59);
        due.is("over the last step", first.mean(0, 0, 1), 1L << 60);
        due.is("over the last step, from there", first.mean(0, 1, 1), 1L << 60);
    }

    private void meanWithWeightZero() {
        WaveWalk x = Made.goingToAndFro(3);
        x.step(0, 9);
        x.spread(0, 0);
        for (int k : new int[] {0, 1, 20, 59, 60}) {
            due.is("over " + k, x.mean(0, 0, k), 0);
            due.is("over " + k + ", there", x.mean(0, 1, k), 0);
        }
        for (int k : NOT_STEPS) {
            due.refuses("over " + k, x, () -> x.mean(0, 0, k), ILLEGAL);
        }
    }

    private void meanTooFar() {
        WaveWalk x = new WaveWalk();
        x.net(2, 2);
        x.walk(0);
        x.set(0, 0, 0, 1);
        x.step(0, 57);
        due.is("to time 60", x.mean(0, 1, 3), 0);
        due.is("to time 61, where nothing is", x.mean(0, 1, 4), NONE);
        due.is("far beyond", x.mean(0, 1, 60), NONE);
        Made.tell(x, 0, 2, 2, 1);
        due.is("to 5 times 2 to the 59th", x.mean(0, 1, 59), 0);
        due.is("to 5 times 2 to the 60th, where nothing is", x.mean(0, 1, 60), NONE);
        WaveWalk three = new WaveWalk();
        three.net(2, 3);
        three.walk(0);
        three.set(0, 0, 0, 1);
        due.is("to 9 to the 19th", three.mean(0, 1, 19), 0);
        due.is("to 9 to the 20th", three.mean(0, 1, 20), NONE);
        WaveWalk four = new WaveWalk();
        four.net(2, 4);
        four.walk(0);
        four.set(0, 0, 0, 1);
        due.is("to 4 to the 31st", four.mean(0, 1, 31), 0);
        due.is("to 4 to the 32nd, which wraps around to 0", four.mean(0, 1, 32), NONE);
    }

    private void meanTooGreat() {
        meanOfAll("4 times 4 to the 30th is 2 to the 62nd", 4, 27, 3, MOST_WEIGHT);
        meanOfAll("5 times 4 to the 30th", 4, 26, 4, NONE);
        meanOfAll("4 times 4 to the 31st, which wraps around to 0", 4, 28, 3, NONE);
        meanOfAll("5 times 4 to the 31st, which wraps around to 2 to the 62nd", 4, 27, 4, NONE);
        meanOfAll("twice 4 to the 31st, which wraps around", 4, 30, 1, NONE);
        meanOfAll("4 times 2 to the 60th", 2, 57, 3, MOST_WEIGHT);
        meanOfAll("5 times 2 to the 60th", 2, 56, 4, NONE);
        meanOfAll("17 times 2 to the 60th, which wraps around to 2 to the 60th", 2, 44, 16, NONE);
        meanOfAll("61 times 2 to the 60th", 2, 0, 60, NONE);
        meanOfAll("57 times 2 to the 56th", 2, 0, 56, 57L << 56);
        meanOfAll("58 times 2 to the 57th", 2, 0, 57, NONE);
        meanOfAll("3 times 9 to the 19th", 3, 17, 2, 3 * NINE_TO_THE_19TH);
        meanOfAll("4 times 9 to the 19th", 3, 16, 3, NONE);
        meanOfAll("14 times 9 to the 19th, which wraps around to less", 3, 6, 13, NONE);
        WaveWalk going = Made.goingToAndFro(2);
        going.set(0, 0, 0, 2);
        going.step(0, 59);
        due.is("2 to the 61st, doubled, and nothing more", going.mean(0, 1, 1), MOST_WEIGHT);
        due.is("nothing, and 2 to the 62nd", going.mean(0, 0, 1), MOST_WEIGHT);
        WaveWalk x = Made.onePlace(2);
        Made.tell(x, 0, 2, 92, 89);
        x.step(0, 46);
        due.is("2 to the 62nd and 2 to the 48th", x.mean(0, 0, 1), NONE);
        due.is("2 to the 60th and 2 to the 46th", x.mean(0, 0, 0), (1L << 60) + (1L << 46));
    }

    /** One place has all of the weight 1, so the mean is k + 1 times the weight behind k steps. */
    private void meanOfAll(String what, int doors, int time, int k, long want) {
        WaveWalk x = Made.onePlace(doors);
        x.step(0, time);
        due.refuses(what, x, () -> x.mean(0, 0, k), want);
    }

    private void meanNotAsTold() {
        WaveWalk x = Made.goingToAndFro(2);
        for (int k : NOT_STEPS) {
            due.refuses("over " + k, x, () -> x.mean(0, 0, k), ILLEGAL);
        }
        due.refuses("of no place as well", x, () -> x.mean(0, 2, 61), NO_SUCH);
        due.refuses("of place NONE", x, () -> x.mean(0, NONE, 1), NO_SUCH);
        due.refuses("of no walk as well", x, () -> x.mean(1, 0, 61), NO_SUCH);
    }
}
