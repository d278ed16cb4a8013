import java.util.NoSuchElementException;

/** Walks and their waves: what the terms and promises 7 to 14, 19 and 20 say of their edges. */
final class WaveEdges {
    private static final int NONE = WaveWalk.NONE;
    private static final int LEAST = Integer.MIN_VALUE;
    private static final int MOST = Integer.MAX_VALUE;
    private static final long MOST_WEIGHT = 4611686018427387904L;
    private static final long NINE_TO_THE_19TH = 1350851717672992089L;
    private static final Class<NoSuchElementException> NO_SUCH = NoSuchElementException.class;
    private static final Class<IllegalArgumentException> ILLEGAL = IllegalArgumentException.class;
    private final Due due;

    WaveEdges(Due due) {
        this.due = due;
    }

    void terms(Sentences s) {
        s.hold("WALKS, numbered from 0 on, at most 12:", this::twelveWalks);
        s.hold("a NET, a WAVE: a whole number at each DOOR, and a TIME.", this::walksApart);
        s.hold("WEIGHT of a WAVE: the sum of all its squares.", this::leastAndGreatestWeights);
        s.hold("A WALK is at TIME 0 with a WAVE of told numbers (-100 to 100;", this::toldNumbers);
        s.hold("at first all 0);", this::allZeroAtFirst);
        s.hold("its WEIGHT then is its BASE.", this::stepsFromTheGreatestBases);
        s.hold("A STEP: at MARKED PLACES all numbers change their signs;", this::signsAtMarkedPlaces);
        s.hold("then at each PLACE the numbers x0, x1, .. of its DOORS become: d 2: x0 + x1, x0 - x1;", this::tableOfTwo);
        s.hold("d 3: 2 times the sum of all three, less 3 times the own one;", this::tableOfThree);
        s.hold("d 4: the sum of all four, less 2 times the own one;", this::tableOfFour);
        s.hold("then each number is that of the DOOR to which its own LEADS.", this::throughTheDoors);
        s.hold("TIME is 1 more.", this::timeOneMore);
        s.hold("WEIGHT is SCALE times as much (SCALE is 2, 9, 4 for d 2, 3, 4).", this::weightByScale);
        s.hold("UNDONE: the WAVE ahead of the STEP.", this::undoneFromTheLastTime);
        s.hold("A WALK goes on as long as its WEIGHT isn't above 4611686018427387904 (2 to the 62nd),", this::goesOnByWeight);
        s.hold("and to TIME 60.", this::goesOnByTime);
        s.hold("SHARE of a PLACE: the sum of its DOORS' squares, of the WEIGHT.", this::leastAndGreatestShares);
    }

    void promises(Sentences s) {
        s.section("Promise 7: walk");
        s.hold("A WALK: its number.", this::walkNumbers);
        s.hold("NONE: there are 12.", this::walksAreFull);
        s.section("Promise 8: set");
        s.hold("The number at a DOOR of a WALK is v, TIME becomes 0", this::setAtTheEdges);
        s.hold("(all other numbers stay): true.", this::setLeavesTheOthers);
        s.hold("False: some other number is not -100 to 100 now.", this::setWithAnotherTooGreat);
        s.hold("NoSuchElementException: no such WALK (as everywhere), PLACE, DOOR.", this::setNoSuch);
        s.hold("IllegalArgumentException: v is not as told.", this::setNotAsTold);
        s.section("Promise 9: spread");
        s.hold("All numbers of a WALK are v, TIME is 0.", this::spreadAtTheEdges);
        s.hold("IllegalArgumentException likewise.", this::spreadNotAsTold);
        s.section("Promise 10: step");
        s.hold("n STEPS: TIME.", this::fewestAndMostSteps);
        s.hold("NONE, and nothing changes: it doesn't go on so far,", this::stepTooFar);
        s.hold("or its WEIGHT is 0.", this::stepWithWeightZero);
        s.hold("IllegalArgumentException: n is not 0 to 60.", this::stepNotAsTold);
        s.section("Promise 11: back");
        s.hold("n STEPS are UNDONE: TIME.", this::fewestAndMostUndone);
        s.hold("NONE, and nothing changes: TIME is less than n.", this::backTooFar);
        s.hold("IllegalArgumentException likewise.", this::backNotAsTold);
        s.section("Promise 12: at");
        s.hold("The number at a DOOR.", this::leastAndGreatestNumbers);
        s.section("Promise 13: share");
        s.hold("The sum of a PLACE's squares;", this::shareOfFirstAndLastPlace);
        s.hold("place NONE: WEIGHT.", this::shareOfNone);
        s.section("Promise 14: of");
        s.hold("0 the NET, 1 TIME, 2 SCALE.", this::ofFirstAndLast);
        s.hold("NoSuchElementException: another what.", this::ofAnotherWhat);
        s.section("Promise 19: copy");
        s.hold("A WALK becomes as another one of that NET is.", this::copyAtTheEdges);
        s.hold("IllegalArgumentException: it is of another NET.", this::copyOfAnotherNet);
        s.section("Promise 20: count");
        s.hold("0 NETS, 1 WALKS.", this::countEmptyAndFull);
        s.hold("NoSuchElementException: another what.", this::countAnotherWhat);
    }

    private void numbersAre(String what, WaveWalk x, int doors, long... want) {
        for (int i = 0; i < want.length; i++) {
            due.is(what + ": number " + i, x.at(0, i / doors, i % doors), want[i]);
        }
    }

    private void twelveWalks() {
        WaveWalk x = new WaveWalk();
        for (int i = 0; i < 6; i++) {
            x.net(1, 2);
        }
        for (int i = 0; i < 12; i++) {
            due.is("walk " + i, x.walk(i % 6), i);
            due.is("its net", x.of(i, 0), i % 6);
        }
        for (int net = 0; net < 6; net++) {
            due.is("a thirteenth", x.walk(net), NONE);
        }
        due.is("twelve", x.count(1), 12);
        new WalkNumbers(due).allRefuse(x, 12);
    }

    private void walksApart() {
        WaveWalk x = new WaveWalk();
        x.net(12, 4);
        x.walk(0);
        x.walk(0);
        x.set(0, 11, 3, -100);
        x.step(0, 1);
        due.is("time of the other", x.of(1, 1), 0);
        due.is("number of the other", x.at(1, 11, 3), 0);
        x.set(1, 0, 0, 1);
        due.is("time of the first", x.of(0, 1), 1);
        due.is("number of the first", x.at(0, 0, 0), 0);
        due.is("its last number", x.at(0, 11, 3), 100);
    }

    private void leastAndGreatestWeights() {
        WaveWalk x = new WaveWalk();
        x.net(12, 4);
        x.walk(0);
        due.is("0", x.share(0, NONE), 0);
        x.set(0, 11, 3, -1);
        due.is("1, of a negative number", x.share(0, NONE), 1);
        x.spread(0, -100);
        due.is("48 squares of -100", x.share(0, NONE), 480000);
        x.spread(0, 100);
        due.is("48 squares of 100", x.share(0, NONE), 480000);
    }

    private void toldNumbers() {
        WaveWalk x = Made.onePlace(2);
        for (int v : new int[] {100, -100, 99, -99, 0}) {
            due.isTrue("set " + v, x.set(0, 0, 1, v));
            due.is("is " + v, x.at(0, 0, 1), v);
            due.ends("spread " + v, () -> x.spread(0, v), null);
            due.is("spread is " + v, x.at(0, 0, 0), v);
        }
        for (int v : new int[] {101, -101, 128, -128, 356, -156, LEAST, MOST}) {
            due.refuses("set " + v, x, () -> x.set(0, 0, 1, v), ILLEGAL);
            due.refuses("spread " + v, x, () -> x.spread(0, v), ILLEGAL);
        }
        due.is("time", x.of(0, 1), 0);
    }

    private void allZeroAtFirst() {
        WaveWalk x = new WaveWalk();
        x.net(12, 4);
        x.walk(0);
        x.spread(0, 100);
        x.step(0, 5);
        due.is("another walk of that net", x.walk(0), 1);
        for (int cell = 0; cell < 48; cell++) {
            due.is("number " + cell, x.at(1, cell / 4, cell % 4), 0);
        }
        due.is("time", x.of(1, 1), 0);
        due.is("weight", x.share(1, NONE), 0);
    }

    /** 240000, 360000 and 480000 are the greatest weights that can be told. */
    private void stepsFromTheGreatestBases() {
        int[] most = {44, 13, 21};
        for (int doors = 2; doors <= 4; doors++) {
            int last = most[doors - 2];
            WaveWalk x = new WaveWalk();
            x.net(12, doors);
            x.walk(0);
            x.spread(0, 100);
            long base = x.share(0, NONE);
            due.is("base", base, 120000L * doors);
            due.is("one too many", x.step(0, last + 1), NONE);
            due.is("as many as it goes on", x.step(0, last), last);
            due.is("and no more", x.step(0, 1), NONE);
            x.spread(0, -100);
            due.is("all 60", x.step(0, 60), NONE);
            due.is("base as it was", x.share(0, NONE), base);
        }
    }

    private void signsAtMarkedPlaces() {
        for (int doors = 2; doors <= 4; doors++) {
            WaveWalk x = new WaveWalk();
            x.net(2, doors);
            x.mark(0, 1, true);
            x.walk(0);
            for (int door = 0; door < doors; door++) {
                x.set(0, 0, door, door == 0 ? -100 : 100);
                x.set(0, 1, door, door == 0 ? -100 : 100);
            }
            x.step(0, 1);
            for (int door = 0; door < doors; door++) {
                due.is("signs at " + door, x.at(0, 1, door), -x.at(0, 0, door));
            }
            due.isTrue("there are some", x.share(0, 1) > 0);
        }
    }

    private void tableOfTwo() {
        WaveWalk x = Made.onePlace(2);
        int[][] told = {{0, 0}, {1, 0}, {0, 1}, {100, 100}, {100, -100}, {-100, 100}, {-100, -100}, {3, -8}};
        long[][] want = {{0, 0}, {1, 1}, {1, -1}, {200, 0}, {0, 200}, {0, -200}, {-200, 0}, {-5, 11}};
        for (int i = 0; i < told.length; i++) {
            Made.tell(x, 0, 2, told[i]);
            due.is("step", x.step(0, 1), i == 0 ? NONE : 1);
            numbersAre("told " + i, x, 2, want[i]);
        }
    }

    private void tableOfThree() {
        WaveWalk x = Made.onePlace(3);
        int[][] told = {{1, 0, 0}, {0, 1, 0}, {0, 0, 1}, {100, 100, 100}, {-100, -100, -100}, {100, -100, 100}, {1, 2, 3}};
        long[][] want = {{-1, 2, 2}, {2, -1, 2}, {2, 2, -1}, {300, 300, 300}, {-300, -300, -300}, {-100, 500, -100}, {9, 6, 3}};
        for (int i = 0; i < told.length; i++) {
            Made.tell(x, 0, 3, told[i]);
            due.is("step", x.step(0, 1), 1);
            numbersAre("told " + i, x, 3, want[i]);
        }
    }

    private void tableOfFour() {
        WaveWalk x = Made.onePlace(4);
        int[][] told = {{1, 0, 0, 0}, {0, 0, 0, 1}, {100, 100, 100, 100}, {100, -100, 100, -100}, {-100, -100, -100, 100}, {1, 2, 3, 4}};
        long[][] want = {{-1, 1, 1, 1}, {1, 1, 1, -1}, {200, 200, 200, 200}, {-200, 200, -200, 200}, {0, 0, 0, -400}, {8, 6, 4, 2}};
        for (int i = 0; i < told.length; i++) {
            Made.tell(x, 0, 4, told[i]);
            due.is("step", x.step(0, 1), 1);
            numbersAre("told " + i, x, 4, want[i]);
        }
    }

    /** Place 0 is marked: the sign is changed where the number came from. */
    private void throughTheDoors() {
        WaveWalk x = new WaveWalk();
        x.net(12, 2);
        x.join(0, 0, 0, 11, 1);
        x.join(0, 5, 0, 5, 1);
        x.mark(0, 0, true);
        x.walk(0);
        x.set(0, 0, 0, 7);
        x.set(0, 5, 0, 3);
        x.set(0, 5, 1, 1);
        x.set(0, 11, 0, 10);
        x.step(0, 1);
        due.is("from the last place to the first", x.at(0, 0, 0), 10);
        due.is("from the first place to the last", x.at(0, 11, 1), -7);
        due.is("a door to itself at the first", x.at(0, 0, 1), -7);
        due.is("a door to itself at the last", x.at(0, 11, 0), 10);
        due.is("within a place, there", x.at(0, 5, 0), 2);
        due.is("within a place, back", x.at(0, 5, 1), 4);
        due.is("where nothing was", x.share(0, 6), 0);
    }

    private void timeOneMore() {
        WaveWalk x = Made.onePlace(2);
        for (int time = 1; time <= 60; time++) {
            due.is("step", x.step(0, 1), time);
            due.is("time", x.of(0, 1), time);
        }
    }

    private void weightByScale() {
        long[] scales = {2, 9, 4};
        for (int doors = 2; doors <= 4; doors++) {
            WaveWalk x = Made.twoPlaces(doors);
            x.mark(0, 1, true);
            x.walk(0);
            x.set(0, 0, 0, 1);
            x.set(0, 1, 1, -1);
            long weight = 2;
            long scale = scales[doors - 2];
            due.is("scale", x.of(0, 2), scale);
            for (int time = 1; weight <= MOST_WEIGHT / scale && time <= 60; time++) {
                weight *= scale;
                due.is("step", x.step(0, 1), time);
                due.is("weight at " + time, x.share(0, NONE), weight);
            }
        }
    }

    private static WaveWalk knotted(int doors) {
        WaveWalk x = new WaveWalk();
        x.net(2, doors);
        x.join(0, 0, 0, 1, 1);
        x.mark(0, 1, true);
        x.walk(0);
        x.set(0, 0, 0, 1);
        x.set(0, 1, doors - 1, -1);
        return x;
    }

    private void undoneFromTheLastTime() {
        int[] last = {60, 19, 30};
        for (int doors = 2; doors <= 4; doors++) {
            int most = last[doors - 2];
            WaveWalk x = knotted(doors);
            due.is("to the last time", x.step(0, most), most);
            for (int time = most - 1; time >= 0; time--) {
                due.is("undone", x.back(0, 1), time);
                WaveWalk there = knotted(doors);
                there.step(0, time);
                for (int cell = 0; cell < 2 * doors; cell++) {
                    due.is("at time " + time, x.at(0, cell / doors, cell % doors), there.at(0, cell / doors, cell % doors));
                }
            }
            due.is("none ahead of time 0", x.back(0, 1), NONE);
        }
        WaveWalk greatest = new WaveWalk();
        greatest.net(12, 4);
        greatest.mark(0, 11, true);
        greatest.walk(0);
        Made.tell(greatest, 0, 4, 1, 2, 3, 4);
        greatest.set(0, 11, 3, 100);
        String told = Seen.of(greatest);
        greatest.step(0, 24);
        due.is("all of the greatest net", greatest.back(0, 24), 0);
        due.isTrue("as told", told.equals(Seen.of(greatest)));
    }

    private void goesOnByWeight() {
        reachesAndStops("2 to the 62nd of two doors; its double wraps around", 2, 56, MOST_WEIGHT, 8);
        reachesAndStops("2 to the 62nd of four doors; 4 times it wraps around to 0", 4, 31, MOST_WEIGHT, 1);
        reachesAndStops("2 to the 61st; 4 times it wraps around", 4, 30, MOST_WEIGHT / 2, 1, 1);
        reachesAndStops("3 times 2 to the 60th; 4 times it wraps around", 4, 30, 3L << 60, 1, 1, 1);
        reachesAndStops("5 times 4 to the 30th is above", 4, 29, 5L << 58, 2, 1);
        reachesAndStops("9 to the 19th", 3, 19, NINE_TO_THE_19TH, 1);
        reachesAndStops("3 times 9 to the 19th is not above", 3, 19, 3 * NINE_TO_THE_19TH, 1, 1, 1);
        reachesAndStops("4 times 9 to the 19th is above", 3, 18, 4 * (NINE_TO_THE_19TH / 9), 2);
        reachesAndStops("30 times 9 to the 18th is not above", 3, 18, 30 * (NINE_TO_THE_19TH / 9), 5, 2, 1);
        reachesAndStops("31 times 9 to the 18th is above", 3, 17, 31 * (NINE_TO_THE_19TH / 81), 5, 2, 1, 1);
        reachesAndStops("9 times it wraps around to less", 3, 18, 15 * (NINE_TO_THE_19TH / 9), 3, 2, 1, 1);
        reachesAndStops("5 times 2 to the 60th is above", 2, 59, 5L << 59, 2, 1);
    }

    private void reachesAndStops(String what, int doors, int time, long weight, int... told) {
        WaveWalk x = new WaveWalk();
        x.net(2, doors);
        x.walk(0);
        Made.tell(x, 0, doors, told);
        due.refuses(what + ": one more at once", x, () -> x.step(0, time + 1), NONE);
        due.refuses(what + ": 60 at once", x, () -> x.step(0, 60), NONE);
        due.is(what + ": so many", x.step(0, time), time);
        due.is(what + ": weight", x.share(0, NONE), weight);
        due.refuses(what + ": one more", x, () -> x.step(0, 1), NONE);
        due.refuses(what + ": more", x, () -> x.step(0, 60 - time), NONE);
        due.is(what + ": no step", x.step(0, 0), time);
        due.is(what + ": undone", x.back(0, 1), time - 1);
        due.is(what + ": once more", x.step(0, 1), time);
    }

    private void goesOnByTime() {
        WaveWalk x = Made.onePlace(2);
        due.is("to 30", x.step(0, 30), 30);
        due.refuses("to 61", x, () -> x.step(0, 31), NONE);
        due.is("to 59", x.step(0, 29), 59);
        due.refuses("from 59 to 61", x, () -> x.step(0, 2), NONE);
        due.is("to 60", x.step(0, 1), 60);
        due.is("the weight is far from its end", x.share(0, NONE), 1L << 60);
        due.refuses("beyond", x, () -> x.step(0, 1), NONE);
        due.refuses("far beyond", x, () -> x.step(0, 60), NONE);
        due.is("no step", x.step(0, 0), 60);
        due.isTrue("told anew", x.set(0, 0, 0, 2));
        due.is("60 anew", x.step(0, 60), 60);
        due.is("both ends at once", x.share(0, NONE), MOST_WEIGHT);
    }

    private void leastAndGreatestShares() {
        WaveWalk x = new WaveWalk();
        x.net(12, 2);
        x.walk(0);
        due.is("nothing", x.share(0, 11), 0);
        x.set(0, 11, 0, 2);
        due.is("of the last place", x.share(0, 11), 4);
        due.is("of the first place", x.share(0, 0), 0);
        x.step(0, 60);
        due.is("all", x.share(0, 11), MOST_WEIGHT);
        due.is("of the weight", x.share(0, NONE), MOST_WEIGHT);
        due.is("none of it", x.share(0, 10), 0);
        x.spread(0, -100);
        due.is("of two doors", x.share(0, 5), 20000);
    }

    private void walkNumbers() {
        WaveWalk x = new WaveWalk();
        x.net(1, 2);
        x.net(12, 4);
        due.is("of the first net", x.walk(0), 0);
        due.is("of the last net", x.walk(1), 1);
        due.is("of the first net again", x.walk(0), 2);
        due.refuses("of no net", x, () -> x.walk(2), NO_SUCH);
        due.refuses("of net NONE", x, () -> x.walk(NONE), NO_SUCH);
        due.is("a refused one takes no number", x.walk(1), 3);
    }

    private void walksAreFull() {
        WaveWalk x = new WaveWalk();
        x.net(1, 2);
        x.net(1, 2);
        for (int i = 0; i < 12; i++) {
            due.is("walk", x.walk(0), i);
        }
        due.refuses("one too many", x, () -> x.walk(0), NONE);
        due.refuses("of a net without walks", x, () -> x.walk(1), NONE);
        due.refuses("of no net", x, () -> x.walk(2), NO_SUCH);
        due.isTrue("that net has none still", x.mark(1, 0, true));
        due.isTrue("and can be joined", x.join(1, 0, 0, 0, 1));
        due.isTrue("the last walk", x.set(11, 0, 1, 1));
    }

    private void setAtTheEdges() {
        WaveWalk x = new WaveWalk();
        x.net(12, 4);
        x.walk(0);
        due.isTrue("the first door", x.set(0, 0, 0, 100));
        due.isTrue("the last door", x.set(0, 11, 3, -100));
        due.is("first", x.at(0, 0, 0), 100);
        due.is("last", x.at(0, 11, 3), -100);
        due.isTrue("to 0", x.set(0, 0, 0, 0));
        due.is("is 0", x.at(0, 0, 0), 0);

        WaveWalk y = Made.onePlace(2);
        y.set(0, 0, 0, 2);
        y.step(0, 60);
        due.is("2 to the 31st", y.at(0, 0, 0), 1L << 31);
        due.isTrue("only the own one is too great", y.set(0, 0, 0, 5));
        due.is("the new one", y.at(0, 0, 0), 5);
        due.is("time", y.of(0, 1), 0);
        due.is("weight", y.share(0, NONE), 25);
        due.is("nothing to undo", y.back(0, 1), NONE);
        due.is("goes on anew", y.step(0, 57), 57);
    }

    private void setLeavesTheOthers() {
        WaveWalk x = Made.onePlace(2);
        Made.tell(x, 0, 2, 50, 50);
        x.step(0, 1);
        due.isTrue("another one is 100", x.set(0, 0, 1, 7));
        numbersAre("100 stays", x, 2, 100, 7);
        Made.tell(x, 0, 2, -50, -50);
        x.step(0, 1);
        due.isTrue("another one is -100", x.set(0, 0, 1, 7));
        numbersAre("-100 stays", x, 2, -100, 7);
        x.step(0, 1);
        numbersAre("stepped", x, 2, -93, -107);
        due.isTrue("the own one is -107", x.set(0, 0, 1, 0));
        numbersAre("-93 stays", x, 2, -93, 0);
        due.isTrue("as it is", x.set(0, 0, 0, -93));
        numbersAre("as it was", x, 2, -93, 0);
        due.is("time", x.of(0, 1), 0);
    }

    private void setWithAnotherTooGreat() {
        WaveWalk x = new WaveWalk();
        x.net(12, 2);
        x.walk(0);
        x.set(0, 11, 0, 100);
        x.set(0, 11, 1, 1);
        x.step(0, 1);
        due.refuses("another one is 101", x, () -> x.set(0, 11, 1, 0) ? 1 : 0, 0);
        due.refuses("at another place", x, () -> x.set(0, 0, 0, 0) ? 1 : 0, 0);
        due.isTrue("its own one", x.set(0, 11, 0, 100));

        WaveWalk y = Made.onePlace(2);
        Made.tell(y, 0, 2, -100, -1);
        y.step(0, 1);
        due.refuses("another one is -101", y, () -> y.set(0, 0, 1, 0) ? 1 : 0, 0);
        due.is("its step can be undone", y.back(0, 1), 0);
        due.isTrue("and then it is as told", y.set(0, 0, 1, 0));

        for (int sign = -1; sign <= 1; sign += 2) {
            WaveWalk z = Made.onePlace(2);
            z.set(0, 0, 0, 2 * sign);
            z.step(0, 60);
            due.is("of 32 bits", z.at(0, 0, 0), sign * (1L << 31));
            due.refuses("so great that 32 bits wrap around", z, () -> z.set(0, 0, 1, 0) ? 1 : 0, 0);
        }
    }

    private void setNoSuch() {
        WaveWalk x = Made.small();
        WalkNumbers numbers = new WalkNumbers(due);
        String ahead = Seen.of(x);
        for (int walk : new int[] {-1, 1, 11, 12, LEAST, MOST}) {
            numbers.allRefuse(x, walk);
        }
        for (int place : new int[] {-1, 2, 12, LEAST, MOST, 1 << 30}) {
            numbers.allRefusePlace(x, 0, place);
        }
        for (int door : new int[] {-1, 2, 3, 4, LEAST, MOST, 1 << 30}) {
            numbers.allRefuseDoor(x, 0, door);
        }
        due.isTrue("nothing changed", ahead.equals(Seen.of(x)));
    }

    private void setNotAsTold() {
        WaveWalk x = Made.small();
        for (int v : new int[] {101, -101, 1000, LEAST, MOST}) {
            due.refuses("at time 3, v " + v, x, () -> x.set(0, 0, 0, v), ILLEGAL);
        }
        WaveWalk y = Made.onePlace(3);
        y.set(0, 0, 0, 51);
        y.step(0, 1);
        due.refuses("with another one too great as well", y, () -> y.set(0, 0, 0, 101), ILLEGAL);
        due.refuses("at no door as well", y, () -> y.set(0, 0, 3, 101), NO_SUCH);
        due.refuses("the last that is as told", y, () -> y.set(0, 0, 0, 100) ? 1 : 0, 0);
    }

    private void spreadAtTheEdges() {
        for (int doors = 2; doors <= 4; doors++) {
            WaveWalk x = new WaveWalk();
            x.net(12, doors);
            x.walk(0);
            x.walk(0);
            for (int v : new int[] {100, -100, 0}) {
                x.spread(0, v);
                for (int cell = 0; cell < 12 * doors; cell++) {
                    due.is("number " + cell, x.at(0, cell / doors, cell % doors), v);
                }
            }
            due.is("another walk", x.share(1, NONE), 0);
        }
        WaveWalk x = Made.onePlace(2);
        x.set(0, 0, 0, 2);
        x.step(0, 60);
        x.spread(0, 3);
        numbersAre("whatever was there", x, 2, 3, 3);
        due.is("time", x.of(0, 1), 0);
        due.is("nothing to undo", x.back(0, 1), NONE);
    }

    private void spreadNotAsTold() {
        WaveWalk x = Made.small();
        for (int v : new int[] {101, -101, LEAST, MOST}) {
            due.refuses("spread " + v, x, () -> x.spread(0, v), ILLEGAL);
        }
        due.refuses("of no walk as well", x, () -> x.spread(1, 101), NO_SUCH);
        due.is("time stays", x.of(0, 1), 3);
    }

    private void fewestAndMostSteps() {
        WaveWalk x = Made.onePlace(2);
        due.refuses("no step at time 0", x, () -> x.step(0, 0), 0);
        due.is("one", x.step(0, 1), 1);
        due.refuses("no step at time 1", x, () -> x.step(0, 0), 1);
        due.is("to the last time", x.step(0, 59), 60);
        due.is("all undone", x.back(0, 60), 0);
        due.is("60 at once", x.step(0, 60), 60);
        WaveWalk y = Made.onePlace(2);
        for (int i = 1; i <= 60; i++) {
            y.step(0, 1);
        }
        due.isTrue("as one by one", Seen.of(x).equals(Seen.of(y)));
    }

    private void stepTooFar() {
        WaveWalk x = Made.small();
        due.refuses("by time", x, () -> x.step(0, 58), NONE);
        due.is("time stays", x.of(0, 1), 3);
        due.refuses("by weight", x, () -> x.step(0, 57), NONE);
        // 13 times 2 to the 58th is not above 2 to the 62nd, 13 times 2 to the 59th is.
        due.is("the weight now", x.share(0, NONE), 13 * 8);
        due.refuses("one too many", x, () -> x.step(0, 56), NONE);
        due.is("so many", x.step(0, 55), 58);
        due.refuses("no more", x, () -> x.step(0, 1), NONE);
    }

    private void stepWithWeightZero() {
        WaveWalk x = Made.onePlace(2);
        x.step(0, 5);
        x.spread(0, 0);
        for (int n : new int[] {0, 1, 2, 59, 60}) {
            due.refuses("steps " + n, x, () -> x.step(0, n), NONE);
        }
        x.walk(0);
        due.refuses("of a new walk", x, () -> x.step(1, 1), NONE);
        due.is("time", x.of(1, 1), 0);
        x.set(1, 0, 1, -1);
        due.is("weight 1", x.step(1, 1), 1);
    }

    private void stepNotAsTold() {
        WaveWalk x = Made.small();
        for (int n : new int[] {-1, 61, 62, LEAST, MOST}) {
            due.refuses("steps " + n, x, () -> x.step(0, n), ILLEGAL);
        }
        x.spread(0, 0);
        for (int n : new int[] {-1, 61}) {
            due.refuses("steps with weight 0 " + n, x, () -> x.step(0, n), ILLEGAL);
        }
        due.refuses("of no walk as well", x, () -> x.step(1, 61), NO_SUCH);
    }

    private void fewestAndMostUndone() {
        WaveWalk x = Made.onePlace(2);
        due.refuses("none at time 0", x, () -> x.back(0, 0), 0);
        x.step(0, 60);
        due.refuses("none at time 60", x, () -> x.back(0, 0), 60);
        due.is("one", x.back(0, 1), 59);
        due.is("all that are left", x.back(0, 59), 0);
        numbersAre("as at the beginning", x, 2, 1, 0);
        x.step(0, 60);
        due.is("60 at once", x.back(0, 60), 0);
        numbersAre("as at the beginning again", x, 2, 1, 0);
        x.spread(0, 0);
        due.refuses("none with weight 0", x, () -> x.back(0, 0), 0);
    }

    private void backTooFar() {
        WaveWalk x = Made.small();
        for (int n : new int[] {4, 5, 59, 60}) {
            due.refuses("at time 3 by " + n, x, () -> x.back(0, n), NONE);
        }
        due.is("by 3", x.back(0, 3), 0);
        for (int n : new int[] {1, 60}) {
            due.refuses("at time 0 by " + n, x, () -> x.back(0, n), NONE);
        }
        numbersAre("as told", x, 2, 3, 0, 0, -2);
    }

    private void backNotAsTold() {
        WaveWalk x = Made.small();
        for (int n : new int[] {-1, 61, 62, LEAST, MOST}) {
            due.refuses("by " + n, x, () -> x.back(0, n), ILLEGAL);
        }
        due.refuses("of no walk as well", x, () -> x.back(1, -1), NO_SUCH);
        due.is("time stays", x.of(0, 1), 3);
    }

    private void leastAndGreatestNumbers() {
        for (int sign = -1; sign <= 1; sign += 2) {
            WaveWalk x = Made.onePlace(2);
            Made.tell(x, 0, 2, 0, 2 * sign);
            x.step(0, 59);
            numbersAre("at time 59", x, 2, sign * (1L << 30), -sign * (1L << 30));
            x.step(0, 1);
            numbersAre("at time 60", x, 2, 0, sign * (1L << 31));
        }
        WaveWalk x = Made.small();
        new WalkNumbers(due).allRefuseDoor(x, 0, 2);
        new WalkNumbers(due).allRefusePlace(x, 0, NONE);
    }

    private void shareOfFirstAndLastPlace() {
        WaveWalk x = new WaveWalk();
        x.net(12, 4);
        x.walk(0);
        x.set(0, 0, 0, -3);
        x.set(0, 0, 3, 4);
        x.set(0, 11, 0, 5);
        x.set(0, 11, 3, -12);
        due.is("the first", x.share(0, 0), 25);
        due.is("the last", x.share(0, 11), 169);
        due.is("one between", x.share(0, 5), 0);
        due.noSuch("behind the last", () -> x.share(0, 12));
        due.noSuch("below NONE", () -> x.share(0, -2));
        due.noSuch("far below NONE", () -> x.share(0, LEAST));
        due.noSuch("far behind", () -> x.share(0, MOST));
    }

    private void shareOfNone() {
        WaveWalk x = Made.twoPlaces(4);
        x.walk(0);
        due.is("0", x.share(0, -1), 0);
        x.spread(0, 100);
        due.is("of all", x.share(0, -1), 80000);
        Made.tell(x, 0, 4, 1);
        x.step(0, 31);
        due.is("the greatest", x.share(0, NONE), MOST_WEIGHT);
        due.noSuch("of no walk", () -> x.share(1, NONE));
    }

    private void ofFirstAndLast() {
        WaveWalk x = new WaveWalk();
        int[] scales = {2, 9, 4};
        for (int i = 0; i < 6; i++) {
            x.net(1, 2 + i % 3);
        }
        for (int i = 0; i < 12; i++) {
            x.walk(5 - i % 6);
            due.is("the net", x.of(i, 0), 5 - i % 6);
            due.is("the time", x.of(i, 1), 0);
            due.is("the scale", x.of(i, 2), scales[(5 - i % 6) % 3]);
        }
        x.spread(11, 1);
        due.is("60 steps", x.step(11, 60), 60);
        due.is("the greatest time", x.of(11, 1), 60);
        due.is("the time of another walk of that net", x.of(5, 1), 0);
    }

    private void ofAnotherWhat() {
        WaveWalk x = Made.small();
        for (int what : new int[] {-1, 3, 4, LEAST, MOST}) {
            due.refuses("what " + what, x, () -> x.of(0, what), NO_SUCH);
        }
        due.refuses("of no walk", x, () -> x.of(1, 0), NO_SUCH);
    }

    private void copyAtTheEdges() {
        WaveWalk x = Made.onePlace(2);
        x.walk(0);
        x.step(0, 60);
        due.ends("at the last time", () -> x.copy(1, 0), null);
        due.is("time", x.of(1, 1), 60);
        due.is("goes no further", x.step(1, 1), NONE);
        due.is("can be undone", x.back(1, 60), 0);
        due.is("as the other one began", x.at(1, 0, 0), 1);
        due.is("which stays", x.of(0, 1), 60);
        due.refuses("itself", x, () -> x.copy(0, 0), (Class<RuntimeException>) null);
        x.walk(0);
        due.ends("an empty one", () -> x.copy(0, 2), null);
        due.is("weight 0", x.share(0, NONE), 0);
        due.is("time 0", x.of(0, 1), 0);
        due.is("nothing to undo", x.back(0, 1), NONE);
        x.set(0, 0, 0, 9);
        due.is("each on its own behind it", x.at(2, 0, 0), 0);
    }

    private void copyOfAnotherNet() {
        WaveWalk x = new WaveWalk();
        x.net(2, 2);
        x.net(2, 2);
        x.walk(0);
        x.walk(1);
        x.set(1, 1, 1, 4);
        due.refuses("to the first", x, () -> x.copy(0, 1), ILLEGAL);
        due.refuses("to the second", x, () -> x.copy(1, 0), ILLEGAL);
        for (int wrong : new int[] {-1, 2, 12, LEAST, MOST}) {
            due.refuses("from " + wrong, x, () -> x.copy(0, wrong), NO_SUCH);
            due.refuses("to " + wrong, x, () -> x.copy(wrong, 0), NO_SUCH);
        }
        due.refuses("neither", x, () -> x.copy(2, 2), NO_SUCH);
    }

    private void countEmptyAndFull() {
        WaveWalk x = new WaveWalk();
        due.is("no nets", x.count(0), 0);
        due.is("no walks", x.count(1), 0);
        for (int i = 1; i <= 7; i++) {
            x.net(1, 2);
            x.net(0, 2);
            due.is("nets", x.count(0), Math.min(i, 6));
        }
        for (int i = 1; i <= 13; i++) {
            x.walk(0);
            due.is("walks", x.count(1), Math.min(i, 12));
        }
    }

    private void countAnotherWhat() {
        WaveWalk x = Made.small();
        for (int what : new int[] {-1, 2, 3, LEAST, MOST}) {
            due.refuses("what " + what, x, () -> x.count(what), NO_SUCH);
        }
        due.noSuch("of an empty object", () -> new WaveWalk().count(2));
    }
}
