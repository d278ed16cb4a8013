/** Each promise by itself: ordinary inputs, the edges that the document names, and wrong inputs. */
public final class PromiseTest {
    private static final long MOST_WEIGHT = 1L << 62;
    private static final int NONE = WaveWalk.NONE;
    private static final int LEAST = Integer.MIN_VALUE;
    private static final int MOST = Integer.MAX_VALUE;
    private static final Due due = new Due();

    public static void main(String[] args) {
        newObject();
        net();
        join();
        joinOfJoinedDoors();
        leads();
        mark();
        alikeByDoors();
        alikeByMarks();
        walk();
        set();
        setBehindSteps();
        spread();
        stepTables();
        stepMarksAndDoors();
        stepLimits();
        back();
        backWithMarks();
        at();
        share();
        of();
        arrives();
        returns();
        best();
        mean();
        meanLimits();
        copy();
        count();
        wrongBoth();
        due.end();
    }

    /** Two places with two doors, each door to the like one of the other place. */
    private static WaveWalk twoPlaces() {
        WaveWalk x = new WaveWalk();
        x.net(2, 2);
        x.join(0, 0, 0, 1, 0);
        x.join(0, 0, 1, 1, 1);
        return x;
    }

    /** One place, all of whose doors lead to themselves, and a walk with 1 at door 0. */
    private static WaveWalk onePlace(int doors) {
        WaveWalk x = new WaveWalk();
        x.net(1, doors);
        x.walk(0);
        x.set(0, 0, 0, 1);
        return x;
    }

    private static void newObject() {
        WaveWalk x = new WaveWalk();
        due.is("NONE", WaveWalk.NONE, -1);
        due.is("new count(0)", x.count(0), 0);
        due.is("new count(1)", x.count(1), 0);
        due.noSuch("new leads(0, 0, 0)", () -> x.leads(0, 0, 0));
        due.noSuch("new walk(0)", () -> x.walk(0));
        due.noSuch("new at(0, 0, 0)", () -> x.at(0, 0, 0));
        WaveWalk other = new WaveWalk();
        other.net(1, 2);
        due.is("nets of another object", x.count(0), 0);
    }

    private static void net() {
        WaveWalk x = new WaveWalk();
        int[][] wrong = {{0, 2}, {-1, 2}, {13, 2}, {1, 1}, {1, 5}, {1, 0}, {1, -2}, {MOST, 2}, {LEAST, 2}, {1, MOST}, {1, LEAST}, {0, 0}};
        for (int[] w : wrong) {
            due.is("net(" + w[0] + ", " + w[1] + ")", x.net(w[0], w[1]), NONE);
        }
        due.is("count behind refused nets", x.count(0), 0);
        int[][] right = {{1, 2}, {12, 2}, {1, 3}, {12, 3}, {1, 4}, {12, 4}};
        for (int i = 0; i < right.length; i++) {
            due.is("net " + i, x.net(right[i][0], right[i][1]), i);
        }
        due.is("a seventh net", x.net(1, 2), NONE);
        due.is("count(0)", x.count(0), 6);
        due.is("last door of net 5", x.leads(5, 11, 3), 47);
        due.noSuch("net 0 has one place", () -> x.leads(0, 1, 0));
        due.noSuch("net 0 has two doors", () -> x.leads(0, 0, 2));
        due.noSuch("net 3 has three doors", () -> x.leads(3, 0, 3));
        due.noSuch("net 5 has twelve places", () -> x.leads(5, 12, 0));
        due.noSuch("net 5 has four doors", () -> x.leads(5, 0, 4));
    }

    private static void join() {
        WaveWalk x = new WaveWalk();
        x.net(3, 3);
        x.net(3, 3);
        due.isTrue("join", x.join(0, 0, 1, 2, 2));
        due.is("leads there", x.leads(0, 0, 1), 10);
        due.is("leads back", x.leads(0, 2, 2), 1);
        due.is("the other net stays", x.leads(1, 0, 1), 1);
        due.isTrue("doors of one place", x.join(0, 1, 0, 1, 2));
        due.is("leads within the place", x.leads(0, 1, 0), 6);
        due.is("and back", x.leads(0, 1, 2), 4);
        int[][] wrong = {{-1, 0, 0, 0, 0}, {2, 0, 0, 0, 0}, {6, 0, 0, 0, 0}, {MOST, 0, 0, 0, 0}, {LEAST, 0, 0, 0, 0},
            {0, -1, 0, 0, 0}, {0, 3, 0, 0, 0}, {0, 0, -1, 0, 0}, {0, 0, 3, 0, 0}, {0, 0, 0, -1, 0}, {0, 0, 0, 3, 0},
            {0, 0, 0, 0, -1}, {0, 0, 0, 0, 3}, {0, MOST, 0, 0, 0}, {0, 0, LEAST, 0, 0}, {0, 0, 0, LEAST, 0}, {0, 0, 0, 0, MOST}};
        for (int[] w : wrong) {
            due.noSuch("join " + java.util.Arrays.toString(w), () -> x.join(w[0], w[1], w[2], w[3], w[4]) ? 1 : 0);
        }
        due.is("still as joined", x.leads(0, 0, 1), 10);
        x.walk(0);
        due.isFalse("join with walks", x.join(0, 0, 0, 0, 1));
        due.is("stays as it is", x.leads(0, 0, 0), 0);
        due.isTrue("the net without walks", x.join(1, 0, 0, 0, 1));
        for (int[] w : wrong) {
            due.noSuch("join with walks " + java.util.Arrays.toString(w), () -> x.join(w[0], w[1], w[2], w[3], w[4]) ? 1 : 0);
        }
    }

    private static void joinOfJoinedDoors() {
        WaveWalk x = new WaveWalk();
        x.net(4, 2);
        x.join(0, 0, 0, 1, 0);
        x.join(0, 2, 0, 3, 0);
        due.isTrue("joined anew", x.join(0, 0, 0, 2, 0));
        due.is("one", x.leads(0, 0, 0), 8);
        due.is("two", x.leads(0, 2, 0), 0);
        due.is("left by one", x.leads(0, 1, 0), 4);
        due.is("left by two", x.leads(0, 3, 0), 12);
        due.isTrue("the same again", x.join(0, 2, 0, 0, 0));
        due.is("the same one", x.leads(0, 0, 0), 8);
        due.is("the same two", x.leads(0, 2, 0), 0);
        due.isTrue("with itself", x.join(0, 0, 0, 0, 0));
        due.is("leads to itself", x.leads(0, 0, 0), 0);
        due.is("what it led to does too", x.leads(0, 2, 0), 8);
        due.isTrue("with itself again", x.join(0, 0, 0, 0, 0));
        due.is("still to itself", x.leads(0, 0, 0), 0);
    }

    private static void leads() {
        WaveWalk x = new WaveWalk();
        x.net(12, 4);
        for (int place = 0; place < 12; place++) {
            for (int door = 0; door < 4; door++) {
                due.is("leads at first", x.leads(0, place, door), 4 * place + door);
            }
        }
        x.net(2, 2);
        x.join(1, 0, 1, 1, 0);
        due.is("4 times the place also with 2 doors", x.leads(1, 0, 1), 4);
        due.noSuch("leads(-1, ..)", () -> x.leads(-1, 0, 0));
        due.noSuch("leads(2, ..)", () -> x.leads(2, 0, 0));
        due.noSuch("leads place NONE", () -> x.leads(0, NONE, 0));
        due.noSuch("leads place 12", () -> x.leads(0, 12, 0));
        due.noSuch("leads door -1", () -> x.leads(0, 0, -1));
        due.noSuch("leads door 2 of 2", () -> x.leads(1, 0, 2));
        due.noSuch("leads place of MOST", () -> x.leads(0, MOST, 0));
        due.noSuch("leads door of LEAST", () -> x.leads(0, 0, LEAST));
    }

    private static void mark() {
        WaveWalk x = new WaveWalk();
        x.net(2, 2);
        due.isTrue("mark", x.mark(0, 1, true));
        due.is("marked is another class", x.alike(0, NONE), 2);
        due.isTrue("mark again", x.mark(0, 1, true));
        due.is("still", x.alike(0, NONE), 2);
        due.isTrue("mark off", x.mark(0, 1, false));
        due.is("one class", x.alike(0, NONE), 1);
        due.noSuch("mark place 2", () -> x.mark(0, 2, true) ? 1 : 0);
        due.noSuch("mark place NONE", () -> x.mark(0, NONE, true) ? 1 : 0);
        due.noSuch("mark net 1", () -> x.mark(1, 0, true) ? 1 : 0);
        due.noSuch("mark net -1", () -> x.mark(-1, 0, true) ? 1 : 0);
        x.walk(0);
        due.isFalse("mark with walks", x.mark(0, 0, true));
        due.isFalse("mark as it is with walks", x.mark(0, 0, false));
        due.is("stays as it is", x.alike(0, NONE), 1);
        due.noSuch("mark place 2 with walks", () -> x.mark(0, 2, true) ? 1 : 0);
    }

    /** A row of five places: the ends, their neighbours and the middle are three classes. */
    private static void alikeByDoors() {
        WaveWalk x = new WaveWalk();
        x.net(5, 2);
        due.is("all lead to themselves", x.alike(0, NONE), 1);
        for (int place = 0; place < 4; place++) {
            x.join(0, place, 1, place + 1, 0);
        }
        // No door leads out of the one class yet, so nothing is ever parted.
        due.is("a row without marks", x.alike(0, NONE), 1);
        x.mark(0, 2, true);
        due.is("classes of the row", x.alike(0, NONE), 3);
        int[] want = {0, 1, 2, 1, 0};
        for (int place = 0; place < 5; place++) {
            due.is("class of " + place, x.alike(0, place), want[place]);
        }
        // A net that is looked at between does not leave its classes to another one.
        x.net(12, 3);
        due.is("twelve alike", x.alike(1, 11), 0);
        due.is("the row again", x.alike(0, NONE), 3);
        due.noSuch("alike place 5", () -> x.alike(0, 5));
        due.noSuch("alike place -2", () -> x.alike(0, -2));
        due.noSuch("alike place LEAST", () -> x.alike(0, LEAST));
        due.noSuch("alike net 2", () -> x.alike(2, 0));
        due.noSuch("alike net -1", () -> x.alike(-1, NONE));
        x.walk(0);
        due.is("alike with walks", x.alike(0, 4), 0);
    }

    /** A row of twelve with its end marked takes all rounds: each place is a class of its own. */
    private static void alikeByMarks() {
        WaveWalk x = new WaveWalk();
        x.net(12, 2);
        for (int place = 0; place < 11; place++) {
            x.join(0, place, 1, place + 1, 0);
        }
        x.mark(0, 11, true);
        due.is("twelve classes", x.alike(0, NONE), 12);
        for (int place = 0; place < 12; place++) {
            due.is("class in the long row", x.alike(0, place), place);
        }
        x.mark(0, 0, true);
        due.is("both ends marked", x.alike(0, NONE), 6);
        due.is("class of the last", x.alike(0, 11), 0);
        due.is("class of the one ahead", x.alike(0, 10), 1);

        // How many doors lead to a class counts, not only whether one does.
        WaveWalk y = new WaveWalk();
        y.net(3, 4);
        y.mark(0, 0, true);
        y.join(0, 0, 0, 1, 0);
        y.join(0, 0, 1, 1, 1);
        y.join(0, 0, 2, 2, 0);
        due.is("two doors or one", y.alike(0, NONE), 3);
        y.join(0, 1, 1, 1, 1);
        due.is("one door each", y.alike(0, NONE), 2);
        due.is("place 1", y.alike(0, 1), 1);
        due.is("place 2", y.alike(0, 2), 1);

        // Four doors to one class fill that class's count.
        WaveWalk z = new WaveWalk();
        z.net(2, 4);
        z.mark(0, 1, true);
        due.is("doors to themselves", z.alike(0, NONE), 2);
        due.is("marked one", z.alike(0, 1), 1);
    }

    private static void walk() {
        WaveWalk x = new WaveWalk();
        x.net(1, 2);
        x.net(2, 3);
        for (int i = 0; i < 12; i++) {
            due.is("walk " + i, x.walk(i % 2), i);
        }
        due.is("a thirteenth walk", x.walk(0), NONE);
        due.is("count(1)", x.count(1), 12);
        due.noSuch("walk of no net, with 12", () -> x.walk(2));
        due.noSuch("walk(-1)", () -> x.walk(-1));
        due.noSuch("walk(MOST)", () -> x.walk(MOST));
        due.is("net of walk 11", x.of(11, 0), 1);
        due.is("time at first", x.of(11, 1), 0);
        due.is("numbers at first", x.at(11, 1, 2), 0);
        due.is("weight at first", x.share(11, NONE), 0);

        WaveWalk y = new WaveWalk();
        y.net(1, 2);
        for (int i = 0; i < 12; i++) {
            y.walk(0);
        }
        y.net(1, 2);
        due.is("a walk too many", y.walk(1), NONE);
        due.isTrue("gives its net none", y.mark(1, 0, true));
    }

    private static void set() {
        WaveWalk x = new WaveWalk();
        x.net(2, 3);
        x.walk(0);
        x.walk(0);
        due.isTrue("set 100", x.set(0, 1, 2, 100));
        due.isTrue("set -100", x.set(0, 0, 0, -100));
        due.is("is 100", x.at(0, 1, 2), 100);
        due.is("is -100", x.at(0, 0, 0), -100);
        due.is("another door stays", x.at(0, 0, 1), 0);
        due.is("another walk stays", x.at(1, 1, 2), 0);
        due.isTrue("set anew", x.set(0, 1, 2, 7));
        due.is("is 7", x.at(0, 1, 2), 7);
        for (int v : new int[] {101, -101, MOST, LEAST}) {
            due.illegal("set " + v, () -> x.set(0, 0, 0, v) ? 1 : 0);
        }
        due.is("stays -100", x.at(0, 0, 0), -100);
        int[][] wrong = {{-1, 0, 0}, {2, 0, 0}, {12, 0, 0}, {MOST, 0, 0}, {LEAST, 0, 0}, {0, -1, 0}, {0, 2, 0}, {0, 0, -1}, {0, 0, 3}};
        for (int[] w : wrong) {
            due.noSuch("set " + java.util.Arrays.toString(w), () -> x.set(w[0], w[1], w[2], 1) ? 1 : 0);
        }
    }

    private static void setBehindSteps() {
        WaveWalk x = onePlace(3);
        x.set(0, 0, 0, 50);
        due.is("step", x.step(0, 1), 1);
        // Now -50, 100, 100: all others are as told still.
        due.is("at door 0", x.at(0, 0, 0), -50);
        due.is("at door 1", x.at(0, 0, 1), 100);
        due.isTrue("others within 100", x.set(0, 0, 0, 1));
        due.is("time is 0", x.of(0, 1), 0);
        due.is("door 1 stays", x.at(0, 0, 1), 100);
        due.is("nothing to undo", x.back(0, 1), NONE);
        x.spread(0, 0);
        x.set(0, 0, 0, -34);
        x.step(0, 1);
        // Now 34, -68, -68; and behind one more step far above 100.
        x.step(0, 1);
        due.is("as at first times 9", x.at(0, 0, 0), -306);
        due.isTrue("only its own number is too great", x.set(0, 0, 0, 5));
        due.is("time is 0 again", x.of(0, 1), 0);
        due.is("it is 5", x.at(0, 0, 0), 5);
        x.spread(0, 0);
        x.set(0, 0, 0, 51);
        x.step(0, 1);
        due.isFalse("another number is 102", x.set(0, 0, 0, 5));
        due.is("the number stays", x.at(0, 0, 0), -51);
        due.is("time stays", x.of(0, 1), 1);
        due.is("its step can be undone", x.back(0, 1), 0);
        due.is("undone", x.at(0, 0, 0), 51);
        x.set(0, 0, 0, -51);
        x.step(0, 1);
        due.isFalse("another number is -102", x.set(0, 0, 0, 5));
        due.illegal("illegal ahead of false", () -> x.set(0, 0, 0, 101) ? 1 : 0);
        due.noSuch("no such door ahead of false", () -> x.set(0, 0, 3, 5) ? 1 : 0);
    }

    private static void spread() {
        WaveWalk x = new WaveWalk();
        x.net(12, 3);
        x.walk(0);
        x.walk(0);
        x.spread(0, -100);
        due.is("all", x.share(0, NONE), 36 * 10000);
        due.is("first", x.at(0, 0, 0), -100);
        due.is("last", x.at(0, 11, 2), -100);
        due.is("another walk", x.share(1, NONE), 0);
        x.step(0, 2);
        x.spread(0, 100);
        due.is("time", x.of(0, 1), 0);
        due.is("anew", x.at(0, 5, 1), 100);
        due.ends("spread 101", () -> x.spread(0, 101), IllegalArgumentException.class);
        due.ends("spread -101", () -> x.spread(0, -101), IllegalArgumentException.class);
        due.ends("spread LEAST", () -> x.spread(0, LEAST), IllegalArgumentException.class);
        due.ends("spread walk 2", () -> x.spread(2, 1), java.util.NoSuchElementException.class);
        due.ends("spread walk -1", () -> x.spread(-1, 1), java.util.NoSuchElementException.class);
        due.is("stays", x.at(0, 5, 1), 100);
        x.spread(0, 0);
        due.is("all 0", x.share(0, NONE), 0);
    }

    private static void stepTables() {
        int[][] told = {{3, 5}, {3, 5, -7}, {3, 5, -7, 11}};
        long[][] want = {{8, -2}, {-7, -13, 23}, {6, 2, 26, -10}};
        for (int doors = 2; doors <= 4; doors++) {
            WaveWalk x = onePlace(doors);
            for (int door = 0; door < doors; door++) {
                x.set(0, 0, door, told[doors - 2][door]);
            }
            long base = x.share(0, NONE);
            due.is("step with " + doors + " doors", x.step(0, 1), 1);
            for (int door = 0; door < doors; door++) {
                due.is("door " + door + " of " + doors, x.at(0, 0, door), want[doors - 2][door]);
            }
            due.is("weight by scale", x.share(0, NONE), base * x.of(0, 2));
            due.is("step 0", x.step(0, 0), 1);
            due.is("no step", x.at(0, 0, 0), want[doors - 2][0]);
            due.is("step 2", x.step(0, 2), 3);
            due.is("twice the table is the scale", x.at(0, 0, 0), want[doors - 2][0] * x.of(0, 2));
        }
    }

    private static void stepMarksAndDoors() {
        WaveWalk x = new WaveWalk();
        x.net(3, 2);
        x.join(0, 0, 0, 1, 1);
        x.join(0, 1, 0, 2, 1);
        x.mark(0, 1, true);
        x.walk(0);
        x.set(0, 0, 0, 3);
        x.set(0, 0, 1, 1);
        x.set(0, 1, 0, 10);
        x.set(0, 1, 1, 4);
        x.set(0, 2, 0, 7);
        x.set(0, 2, 1, 2);
        // Turned: 4, 2 | -14, -6 | 9, 5; then through the doors.
        due.is("step", x.step(0, 1), 1);
        long[] want = {-6, 2, 5, 4, 9, -14};
        for (int i = 0; i < 6; i++) {
            due.is("number " + i, x.at(0, i / 2, i % 2), want[i]);
        }
    }

    private static void stepLimits() {
        WaveWalk two = onePlace(2);
        due.is("60 steps", two.step(0, 60), 60);
        due.is("weight 2 to the 60th", two.share(0, NONE), 1L << 60);
        due.is("no step from time 60", two.step(0, 1), NONE);
        due.is("but none at all", two.step(0, 0), 60);
        two.back(0, 60);
        two.set(0, 0, 0, 2);
        due.is("to 2 to the 62nd", two.step(0, 60), 60);
        due.is("that weight", two.share(0, NONE), MOST_WEIGHT);
        two.back(0, 60);
        two.set(0, 0, 1, 1);
        due.is("5 times 2 to the 60th", two.step(0, 60), NONE);
        due.is("nothing changed", two.at(0, 0, 0), 2);
        due.is("time 0 still", two.of(0, 1), 0);
        due.is("one less", two.step(0, 59), 59);
        due.is("and no more", two.step(0, 1), NONE);

        WaveWalk three = onePlace(3);
        due.is("9 to the 20th", three.step(0, 20), NONE);
        due.is("9 to the 19th", three.step(0, 19), 19);
        due.is("its weight", three.share(0, NONE), 1350851717672992089L);
        due.is("and no more", three.step(0, 1), NONE);

        // 30 times 9 to the 18th is the last below 2 to the 62nd, 31 times is above it.
        WaveWalk near = new WaveWalk();
        near.net(2, 3);
        near.walk(0);
        near.set(0, 0, 0, 5);
        near.set(0, 0, 1, 2);
        near.set(0, 0, 2, 1);
        due.is("30 times 9 to the 18th", near.step(0, 18), 18);
        due.is("its weight", near.share(0, NONE), 30 * 150094635296999121L);
        near.back(0, 18);
        near.set(0, 1, 0, 1);
        due.is("31 times 9 to the 18th", near.step(0, 18), NONE);
        due.is("31 times 9 to the 17th", near.step(0, 17), 17);

        WaveWalk four = onePlace(4);
        due.is("4 to the 32nd", four.step(0, 32), NONE);
        due.is("4 to the 31st", four.step(0, 31), 31);
        due.is("its weight", four.share(0, NONE), MOST_WEIGHT);
        due.is("no more", four.step(0, 1), NONE);

        four.spread(0, 0);
        due.is("weight 0", four.step(0, 1), NONE);
        due.is("weight 0 and no step", four.step(0, 0), NONE);
        for (int n : new int[] {-1, 61, MOST, LEAST}) {
            due.illegal("step " + n, () -> two.step(0, n));
            due.illegal("step with weight 0 " + n, () -> four.step(0, n));
        }
        due.noSuch("step walk 1", () -> two.step(1, 1));
        due.noSuch("step walk -1", () -> two.step(-1, 1));
    }

    private static void back() {
        for (int doors = 2; doors <= 4; doors++) {
            WaveWalk x = onePlace(doors);
            x.set(0, 0, 1, -3);
            due.is("back 1 at time 0", x.back(0, 1), NONE);
            due.is("back 0", x.back(0, 0), 0);
            x.step(0, 9);
            due.is("back 10 at time 9", x.back(0, 10), NONE);
            due.is("time 9 still", x.of(0, 1), 9);
            due.is("back 4", x.back(0, 4), 5);
            long five = x.at(0, 0, 0);
            x.back(0, 5);
            due.is("as at first", x.at(0, 0, 0), 1);
            due.is("as at first too", x.at(0, 0, 1), -3);
            x.step(0, 5);
            due.is("like 5 steps", x.at(0, 0, 0), five);
            for (int n : new int[] {-1, 61, MOST, LEAST}) {
                due.illegal("back " + n, () -> x.back(0, n));
            }
            due.noSuch("back walk 1", () -> x.back(1, 0));
            due.noSuch("back walk -1", () -> x.back(-1, 0));
            x.spread(0, 0);
            due.is("back 0 with weight 0", x.back(0, 0), 0);
            due.is("back 1 with weight 0", x.back(0, 1), NONE);
        }
    }

    private static void backWithMarks() {
        WaveWalk x = new WaveWalk();
        x.net(3, 3);
        x.join(0, 0, 0, 1, 2);
        x.join(0, 1, 0, 2, 2);
        x.join(0, 2, 0, 2, 1);
        x.mark(0, 0, true);
        x.mark(0, 2, true);
        x.walk(0);
        for (int i = 0; i < 9; i++) {
            x.set(0, i / 3, i % 3, 11 * i - 40);
        }
        due.is("12 steps", x.step(0, 12), 12);
        due.is("undone", x.back(0, 12), 0);
        for (int i = 0; i < 9; i++) {
            due.is("number " + i, x.at(0, i / 3, i % 3), 11 * i - 40);
        }
    }

    private static void at() {
        WaveWalk x = new WaveWalk();
        x.net(2, 2);
        x.walk(0);
        x.set(0, 1, 0, -9);
        due.is("at", x.at(0, 1, 0), -9);
        due.is("at another", x.at(0, 0, 1), 0);
        int[][] wrong = {{-1, 0, 0}, {1, 0, 0}, {MOST, 0, 0}, {0, NONE, 0}, {0, 2, 0}, {0, 0, -1}, {0, 0, 2}, {0, 0, 3}, {0, 0, LEAST}};
        for (int[] w : wrong) {
            due.noSuch("at " + java.util.Arrays.toString(w), () -> x.at(w[0], w[1], w[2]));
        }
        WaveWalk y = onePlace(2);
        y.set(0, 0, 0, 0);
        y.set(0, 0, 1, 2);
        y.step(0, 59);
        due.is("-2 to the 30th", y.at(0, 0, 1), -(1L << 30));
        y.step(0, 1);
        due.is("2 to the 31st", y.at(0, 0, 1), 1L << 31);
    }

    private static void share() {
        WaveWalk x = new WaveWalk();
        x.net(2, 3);
        x.walk(0);
        x.set(0, 0, 0, -3);
        x.set(0, 0, 2, 4);
        x.set(0, 1, 1, 2);
        due.is("share of place 0", x.share(0, 0), 25);
        due.is("share of place 1", x.share(0, 1), 4);
        due.is("weight", x.share(0, NONE), 29);
        due.noSuch("share place 2", () -> x.share(0, 2));
        due.noSuch("share place -2", () -> x.share(0, -2));
        due.noSuch("share walk 1", () -> x.share(1, NONE));
        due.noSuch("share walk -1", () -> x.share(-1, 0));
    }

    private static void of() {
        WaveWalk x = new WaveWalk();
        int[] scales = {2, 9, 4};
        for (int doors = 2; doors <= 4; doors++) {
            x.net(2, doors);
        }
        for (int walk = 0; walk < 3; walk++) {
            x.walk(2 - walk);
            due.is("net", x.of(walk, 0), 2 - walk);
            due.is("scale", x.of(walk, 2), scales[2 - walk]);
        }
        x.spread(1, 1);
        x.step(1, 3);
        due.is("time", x.of(1, 1), 3);
        due.is("time of another", x.of(0, 1), 0);
        for (int what : new int[] {-1, 3, MOST, LEAST}) {
            due.noSuch("of what " + what, () -> x.of(0, what));
        }
        due.noSuch("of walk 3", () -> x.of(3, 0));
        due.noSuch("of walk -1", () -> x.of(-1, 0));
    }

    private static void arrives() {
        WaveWalk x = twoPlaces();
        x.walk(0);
        due.is("weight 0", x.arrives(0, 0, 60), NONE);
        x.set(0, 0, 0, 1);
        due.is("is there", x.arrives(0, 0, 0), 0);
        due.is("not within 0", x.arrives(0, 1, 0), NONE);
        due.is("within 1", x.arrives(0, 1, 1), 1);
        x.step(0, 1);
        due.is("from a walk as it is", x.arrives(0, 0, 60), 1);
        due.is("the walk stays", x.of(0, 1), 1);
        due.is("its numbers too", x.at(0, 1, 1), 1);
        x.step(0, 59);
        due.is("doesn't go on at time 60", x.arrives(0, 1, 60), NONE);
        due.is("but is there", x.arrives(0, 0, 60), 0);
        x.set(0, 0, 0, 1);
        for (int most : new int[] {-1, 61, MOST, LEAST}) {
            due.illegal("arrives most " + most, () -> x.arrives(0, 0, most));
        }
        due.noSuch("arrives place 2", () -> x.arrives(0, 2, 1));
        due.noSuch("arrives place NONE", () -> x.arrives(0, NONE, 1));
        due.noSuch("arrives walk 1", () -> x.arrives(1, 0, 1));
        due.noSuch("arrives walk -1", () -> x.arrives(-1, 0, 1));

        // 2 to the 62nd is reached by 31 steps of 4 doors; place 1 would be reached by the 32nd.
        WaveWalk y = new WaveWalk();
        y.net(2, 4);
        for (int door = 0; door < 4; door++) {
            y.join(0, 0, door, 1, door);
        }
        y.walk(0);
        y.set(0, 0, 0, 1);
        y.step(0, 30);
        due.is("to the greatest weight", y.arrives(0, 1, 60), 1);
        y.step(0, 1);
        due.is("not beyond it", y.arrives(0, 0, 60), NONE);
    }

    private static void returns() {
        WaveWalk x = twoPlaces();
        x.walk(0);
        due.is("weight 0", x.returns(0, 60), NONE);
        x.set(0, 0, 0, 1);
        due.is("returns", x.returns(0, 60), 2);
        due.is("from 1 on", x.returns(0, 0), NONE);
        due.is("within 1", x.returns(0, 1), NONE);
        due.is("within 2", x.returns(0, 2), 2);
        x.step(0, 58);
        due.is("as far as time 60", x.returns(0, 60), 2);
        x.step(0, 1);
        due.is("not beyond time 60", x.returns(0, 60), NONE);
        for (int most : new int[] {-1, 61, MOST, LEAST}) {
            due.illegal("returns most " + most, () -> x.returns(0, most));
        }
        due.noSuch("returns walk 1", () -> x.returns(1, 1));
        due.noSuch("returns walk -1", () -> x.returns(-1, 1));

        // A multiple may be a negative one: the sign of place 1 is changed on the way.
        WaveWalk y = new WaveWalk();
        y.net(2, 2);
        y.join(0, 0, 0, 1, 0);
        y.join(0, 0, 1, 1, 1);
        y.mark(0, 1, true);
        y.walk(0);
        y.set(0, 0, 0, 1);
        due.is("a negative multiple", y.returns(0, 60), 2);
        y.step(0, 2);
        due.is("minus 2", y.at(0, 0, 0), -2);

        // With 3 doors that lead to themselves 1, 1, 1 becomes 3, 3, 3; 1, 0, 0 returns by the second step.
        WaveWalk z = onePlace(3);
        due.is("three doors", z.returns(0, 60), 2);
        z.spread(0, 100);
        due.is("three times as much", z.returns(0, 60), 1);
        z.step(0, 17);
        due.is("great numbers", z.returns(0, 60), 1);
    }

    private static void best() {
        WaveWalk x = new WaveWalk();
        x.net(2, 2);
        x.join(0, 0, 0, 1, 0);
        x.join(0, 0, 1, 1, 1);
        x.mark(0, 1, true);
        x.walk(0);
        due.is("weight 0", x.best(0, 60), NONE);
        x.set(0, 0, 0, 1);
        due.is("best", x.best(0, 60), 1);
        due.is("within 0", x.best(0, 0), 0);
        due.is("within 1", x.best(0, 1), 1);
        x.step(0, 1);
        due.is("now, as later ones are like it", x.best(0, 60), 0);
        due.is("the walk stays", x.of(0, 1), 1);
        x.step(0, 59);
        due.is("not beyond time 60", x.best(0, 60), 0);
        for (int most : new int[] {-1, 61, MOST, LEAST}) {
            due.illegal("best most " + most, () -> x.best(0, most));
        }
        due.noSuch("best walk 1", () -> x.best(1, 1));
        due.noSuch("best walk -1", () -> x.best(-1, 1));

        // It is the share by the weight: the marked place has 9 of 18, then 9 of 36 and so on.
        WaveWalk y = new WaveWalk();
        y.net(2, 2);
        y.mark(0, 0, true);
        y.walk(0);
        y.set(0, 0, 0, 3);
        y.set(0, 1, 0, 3);
        due.is("always a half", y.best(0, 60), 0);
        WaveWalk z = twoPlaces();
        z.walk(0);
        z.spread(0, 1);
        due.is("no marks", z.best(0, 60), 0);

        // All marked places together: two of three places.
        WaveWalk w = new WaveWalk();
        w.net(3, 2);
        w.join(0, 0, 0, 1, 0);
        w.join(0, 0, 1, 2, 0);
        w.mark(0, 1, true);
        w.mark(0, 2, true);
        w.walk(0);
        w.set(0, 0, 0, 1);
        due.is("two marked together", w.best(0, 60), 1);
        bestAgainstGreaterNumbers();
    }

    /** Of the middle of a row all goes to the marked ends, then part of it: greater in number, less by weight. */
    private static void bestAgainstGreaterNumbers() {
        WaveWalk x = new WaveWalk();
        x.net(3, 2);
        x.join(0, 0, 1, 1, 0);
        x.join(0, 1, 1, 2, 0);
        x.mark(0, 0, true);
        x.mark(0, 2, true);
        x.walk(0);
        x.set(0, 1, 0, 1);
        due.is("all at the ends", x.best(0, 60), 1);
        x.step(0, 3);
        due.isTrue("more in number later", x.share(0, 0) + x.share(0, 2) > 2);
    }

    private static void mean() {
        WaveWalk x = twoPlaces();
        x.walk(0);
        due.is("weight 0", x.mean(0, 0, 60), 0);
        x.set(0, 0, 0, 3);
        due.is("over 0 steps", x.mean(0, 0, 0), 9);
        due.is("of the other place", x.mean(0, 1, 0), 0);
        due.is("over 1", x.mean(0, 0, 1), 18);
        due.is("over 1 there", x.mean(0, 1, 1), 18);
        due.is("over 2", x.mean(0, 0, 2), 72);
        due.is("over 2 there", x.mean(0, 1, 2), 36);
        due.is("over 3 there", x.mean(0, 1, 3), 144);
        due.is("the walk stays", x.of(0, 1), 0);
        x.step(0, 1);
        due.is("from a walk as it is", x.mean(0, 1, 1), 36);
        for (int k : new int[] {-1, 61, MOST, LEAST}) {
            due.illegal("mean k " + k, () -> x.mean(0, 0, k));
        }
        due.noSuch("mean place 2", () -> x.mean(0, 2, 1));
        due.noSuch("mean place NONE", () -> x.mean(0, NONE, 1));
        due.noSuch("mean walk 1", () -> x.mean(1, 0, 1));
        due.noSuch("mean walk -1", () -> x.mean(-1, 0, 1));
    }

    private static void meanLimits() {
        // One place has all the weight, so the mean is (k + 1) times the weight behind k steps.
        WaveWalk four = onePlace(4);
        due.is("4 times 4 to the 3rd", four.mean(0, 0, 3), 256);
        four.step(0, 27);
        due.is("2 to the 62nd", four.mean(0, 0, 3), MOST_WEIGHT);
        four.step(0, 1);
        due.is("above it", four.mean(0, 0, 3), NONE);
        due.is("3 times 4 to the 30th", four.mean(0, 0, 2), 3L << 60);
        four.step(0, 3);
        due.is("now at 2 to the 62nd", four.mean(0, 0, 0), MOST_WEIGHT);
        due.is("doesn't go on", four.mean(0, 0, 1), NONE);

        WaveWalk three = onePlace(3);
        three.step(0, 19);
        due.is("9 to the 19th", three.mean(0, 0, 0), 1350851717672992089L);
        due.is("not to the 20th", three.mean(0, 0, 1), NONE);
        three.back(0, 1);
        due.is("twice 9 to the 19th", three.mean(0, 0, 1), 2 * 1350851717672992089L);
        three.back(0, 1);
        due.is("3 times 9 to the 19th", three.mean(0, 0, 2), 3 * 1350851717672992089L);
        three.back(0, 1);
        due.is("4 times it is above", three.mean(0, 0, 3), NONE);

        WaveWalk two = onePlace(2);
        due.is("61 times 2 to the 60th", two.mean(0, 0, 60), NONE);
        due.is("57 times 2 to the 56th", two.mean(0, 0, 56), 57L << 56);
        due.is("58 times 2 to the 57th", two.mean(0, 0, 57), NONE);
        two.step(0, 60);
        due.is("at time 60", two.mean(0, 0, 0), 1L << 60);
        due.is("behind time 60", two.mean(0, 0, 1), NONE);

        // Now 2 to the 61st is at place 1, and behind the step that makes it 2 to the 62nd nothing is.
        WaveWalk going = twoPlaces();
        going.walk(0);
        going.set(0, 0, 0, 2);
        going.step(0, 59);
        due.is("2 to the 62nd and 0", going.mean(0, 1, 1), MOST_WEIGHT);
        due.is("0 and 2 to the 62nd", going.mean(0, 0, 1), MOST_WEIGHT);

        // A walk that goes on so far, with nothing at the place, has the mean 0.
        WaveWalk empty = new WaveWalk();
        empty.net(2, 2);
        empty.walk(0);
        empty.set(0, 0, 0, 2);
        due.is("nothing there", empty.mean(0, 1, 60), 0);
        empty.set(0, 0, 1, 1);
        due.is("nothing there, but it doesn't go on", empty.mean(0, 1, 60), NONE);
    }

    private static void copy() {
        WaveWalk x = new WaveWalk();
        x.net(2, 2);
        x.net(2, 2);
        x.walk(0);
        x.walk(0);
        x.walk(1);
        x.set(0, 0, 0, 5);
        x.step(0, 7);
        x.set(1, 1, 1, 3);
        x.copy(1, 0);
        due.is("time", x.of(1, 1), 7);
        due.is("number", x.at(1, 0, 0), x.at(0, 0, 0));
        due.is("what was there is gone", x.share(1, 1), 0);
        due.is("undone alike", x.back(1, 7), 0);
        due.is("as at first", x.at(1, 0, 0), 5);
        due.is("the other one stays", x.of(0, 1), 7);
        x.set(1, 0, 0, 6);
        due.is("its numbers too", x.back(0, 7), 0);
        due.is("so they are", x.at(0, 0, 0), 5);
        x.copy(0, 0);
        due.is("as itself", x.at(0, 0, 0), 5);
        due.ends("another net", () -> x.copy(0, 2), IllegalArgumentException.class);
        due.ends("another net, the other way", () -> x.copy(2, 0), IllegalArgumentException.class);
        due.is("stays", x.share(2, NONE), 0);
        int[][] wrong = {{-1, 0}, {3, 0}, {0, -1}, {0, 3}, {MOST, 0}, {0, LEAST}, {3, 3}};
        for (int[] w : wrong) {
            due.ends("copy " + java.util.Arrays.toString(w), () -> x.copy(w[0], w[1]), java.util.NoSuchElementException.class);
        }
    }

    private static void count() {
        WaveWalk x = new WaveWalk();
        x.net(1, 2);
        x.net(2, 3);
        x.net(0, 3);
        x.walk(1);
        due.is("nets", x.count(0), 2);
        due.is("walks", x.count(1), 1);
        for (int what : new int[] {-1, 2, MOST, LEAST}) {
            due.noSuch("count " + what, () -> x.count(what));
        }
    }

    /** Where two things are wrong, what does not exist is told first: the document leaves it open. */
    private static void wrongBoth() {
        WaveWalk x = onePlace(2);
        due.noSuch("set", () -> x.set(0, 0, 2, 101) ? 1 : 0);
        due.noSuch("step", () -> x.step(1, 61));
        due.noSuch("back", () -> x.back(1, 61));
        due.noSuch("arrives", () -> x.arrives(0, 1, 61));
        due.noSuch("returns", () -> x.returns(1, 61));
        due.noSuch("best", () -> x.best(1, 61));
        due.noSuch("mean", () -> x.mean(0, 1, 61));
        due.ends("spread", () -> x.spread(1, 101), java.util.NoSuchElementException.class);
    }
}
