import java.util.NoSuchElementException;

/** Nets: what the terms and promises 1 to 6 say of their edges. */
final class NetEdges {
    private static final int NONE = WaveWalk.NONE;
    private static final int LEAST = Integer.MIN_VALUE;
    private static final int MOST = Integer.MAX_VALUE;
    /** 4 times this wraps around to 0. */
    private static final int WRAPS = 1 << 30;
    private final Due due;

    NetEdges(Due due) {
        this.due = due;
    }

    void terms(Sentences s) {
        s.hold("NETS, numbered from 0 on, at most 6:", this::sixNets);
        s.hold("PLACES 0 to n - 1 (n 1 to 12),", this::placesOfEachNumber);
        s.hold("at each DOORS 0 to d - 1 (d 2, 3 or 4, of all alike).", this::doorsOfEachNumber);
        s.hold("Each DOOR LEADS to a DOOR, that one to it;", this::doorsInPairs);
        s.hold("at first each to itself.", this::doorsAtFirst);
        s.hold("JOINED are two DOORS: each LEADS to the other one,", this::joinedFreeDoors);
        s.hold("those to which they led ahead LEAD to themselves.", this::doorsLeftBehind);
        s.hold("PLACES may be MARKED.", this::noneOrAllMarked);
        s.hold("A NET that has WALKS stays as it is.", this::netWithWalks);
        s.hold("ALIKE are PLACES by CLASSES: at first those MARKED are one CLASS, those not another one;", this::classesByMarks);
        s.hold("again and again each CLASS is parted into those PLACES for which each CLASS is led to by as many of their DOORS",
            this::classesByCounts);
        s.hold("(a DOOR that LEADS to the own PLACE counts for the own CLASS),", this::doorsToTheOwnPlace);
        s.hold("till none is parted any more.", this::partedToTheEnd);
        s.hold("CLASSES are numbered from 0 on by their least PLACES.", this::classesByLeastPlaces);
    }

    void promises(Sentences s) {
        s.section("Promise 1: A new object");
        s.hold("No NETS.", this::newObject);
        s.section("Promise 2: net");
        s.hold("A NET: its number.", this::netNumbers);
        s.hold("NONE: there are 6,", this::netsAreFull);
        s.hold("or a number is not as told.", this::netNotAsTold);
        s.section("Promise 3: join");
        s.hold("Two DOORS", this::joinAgain);
        s.hold("(or one with itself) are JOINED: true.", this::joinWithItself);
        s.hold("False: the NET has WALKS.", this::joinWithWalks);
        s.hold("NoSuchElementException: no such NET, PLACES, DOORS", this::joinNoSuch);
        s.hold("(as everywhere).", this::noSuchEverywhere);
        s.section("Promise 4: leads");
        s.hold("To which DOOR one LEADS: 4 times its PLACE, and its number.", this::leadsLeastAndGreatest);
        s.section("Promise 5: mark");
        s.hold("A PLACE is MARKED, or not: true.", this::markOnAndOff);
        s.hold("False: the NET has WALKS.", this::markWithWalks);
        s.section("Promise 6: alike");
        s.hold("The CLASS of a PLACE;", this::classesOfTheLastPlace);
        s.hold("place NONE: how many.", this::howManyClasses);
    }

    private void sixNets() {
        WaveWalk x = new WaveWalk();
        for (int i = 0; i < 6; i++) {
            due.is("net " + i, x.net(2, 2), i);
            due.is("its last door", x.leads(i, 1, 1), 5);
        }
        due.refuses("a seventh", x, () -> x.net(2, 2), NONE);
        due.refuses("net 6", x, () -> x.leads(6, 0, 0), NoSuchElementException.class);
    }

    private void placesOfEachNumber() {
        for (int n = 1; n <= 12; n++) {
            int last = n - 1;
            WaveWalk x = new WaveWalk();
            due.is("net of " + n, x.net(n, 2), 0);
            due.is("place 0 of " + n, x.leads(0, 0, 0), 0);
            due.is("last place of " + n, x.leads(0, last, 0), 4 * last);
            due.noSuch("one behind the last of " + n, () -> x.leads(0, last + 1, 0));
            due.noSuch("place -1 of " + n, () -> x.leads(0, -1, 0));
            due.noSuch("place 12 of " + n, () -> x.leads(0, 12, 0));
        }
        WaveWalk x = new WaveWalk();
        due.is("no places", x.net(0, 2), NONE);
        due.is("13 places", x.net(13, 2), NONE);
    }

    private void doorsOfEachNumber() {
        for (int doors = 2; doors <= 4; doors++) {
            int d = doors;
            WaveWalk x = new WaveWalk();
            due.is("net with " + d, x.net(12, d), 0);
            for (int place = 0; place < 12; place++) {
                int p = place;
                due.is("door 0", x.leads(0, p, 0), 4 * p);
                due.is("last door", x.leads(0, p, d - 1), 4 * p + d - 1);
                due.noSuch("one behind the last of " + d, () -> x.leads(0, p, d));
                due.noSuch("door -1", () -> x.leads(0, p, -1));
                due.noSuch("door 4", () -> x.leads(0, p, 4));
            }
        }
        WaveWalk x = new WaveWalk();
        due.is("one door", x.net(1, 1), NONE);
        due.is("five doors", x.net(1, 5), NONE);
    }

    private void doorsInPairs() {
        WaveWalk x = new WaveWalk();
        x.net(12, 4);
        int one = 5;
        int two = 29;
        for (int i = 0; i < 150; i++) {
            one = (one * 11 + 7) % 48;
            two = (two * 13 + 5) % 48;
            due.isTrue("join", x.join(0, one / 4, one % 4, two / 4, two % 4));
            due.is("there", x.leads(0, one / 4, one % 4), two);
            due.is("and back", x.leads(0, two / 4, two % 4), one);
        }
        for (int cell = 0; cell < 24; cell++) {
            int led = x.leads(0, cell / 4, cell % 4);
            due.is("to it", x.leads(0, led / 4, led % 4), cell);
        }
    }

    private void doorsAtFirst() {
        WaveWalk x = new WaveWalk();
        x.net(12, 4);
        x.net(1, 2);
        for (int cell = 0; cell < 48; cell++) {
            due.is("itself", x.leads(0, cell / 4, cell % 4), cell);
        }
        due.is("itself, door 0", x.leads(1, 0, 0), 0);
        due.is("itself, door 1", x.leads(1, 0, 1), 1);
    }

    private void joinedFreeDoors() {
        WaveWalk x = new WaveWalk();
        x.net(12, 4);
        due.isTrue("the first with the last", x.join(0, 0, 0, 11, 3));
        due.is("there", x.leads(0, 0, 0), 47);
        due.is("and back", x.leads(0, 11, 3), 0);
        due.isTrue("two of one place", x.join(0, 5, 3, 5, 0));
        due.is("within the place", x.leads(0, 5, 3), 20);
        due.is("and back there", x.leads(0, 5, 0), 23);
        due.is("the others stay", x.leads(0, 5, 1), 21);
    }

    private void doorsLeftBehind() {
        WaveWalk x = new WaveWalk();
        x.net(4, 2);
        x.join(0, 0, 0, 1, 0);
        due.isTrue("the first one led away", x.join(0, 0, 0, 2, 0));
        due.is("what it led to", x.leads(0, 1, 0), 4);
        due.isTrue("the second one led away", x.join(0, 3, 0, 2, 0));
        due.is("what that led to", x.leads(0, 0, 0), 0);
        x.join(0, 0, 0, 1, 0);
        due.isTrue("both led away", x.join(0, 3, 0, 0, 0));
        due.is("left by the first", x.leads(0, 2, 0), 8);
        due.is("left by the second", x.leads(0, 1, 0), 4);
        due.is("the two", x.leads(0, 3, 0), 0);
        due.is("the two, back", x.leads(0, 0, 0), 12);
    }

    /** A mark is seen by the sign that a step changes. */
    private void noneOrAllMarked() {
        for (int marked = 0; marked <= 12; marked += 12) {
            WaveWalk x = new WaveWalk();
            x.net(12, 4);
            for (int place = 0; place < marked; place++) {
                due.isTrue("mark", x.mark(0, place, true));
            }
            due.is("one class", x.alike(0, NONE), 1);
            x.walk(0);
            x.spread(0, 1);
            x.step(0, 1);
            for (int place = 0; place < 12; place++) {
                due.is("sign", x.at(0, place, 3), marked == 0 ? 2 : -2);
            }
        }
    }

    private void netWithWalks() {
        WaveWalk x = Made.twoPlaces(2);
        x.net(2, 2);
        due.isTrue("still free to join", x.join(0, 0, 1, 0, 1));
        due.isTrue("still free to mark", x.mark(0, 1, true));
        x.walk(0);
        due.refuses("join from the first walk on", x, () -> x.join(0, 0, 1, 1, 1) ? 1 : 0, 0);
        due.refuses("join as it is", x, () -> x.join(0, 0, 0, 1, 0) ? 1 : 0, 0);
        due.refuses("join with itself", x, () -> x.join(0, 0, 0, 0, 0) ? 1 : 0, 0);
        due.refuses("unmark", x, () -> x.mark(0, 1, false) ? 1 : 0, 0);
        due.refuses("mark", x, () -> x.mark(0, 0, true) ? 1 : 0, 0);
        x.spread(0, 1);
        x.step(0, 1);
        due.is("place 0 is not marked, and leads as it did", x.at(0, 1, 0), 2);
        due.is("place 1 is marked, and leads as it did", x.at(0, 0, 0), -2);
        due.isTrue("another net is free", x.join(1, 0, 0, 1, 1));
        due.isTrue("to be marked too", x.mark(1, 0, true));
    }

    private void classesByMarks() {
        WaveWalk x = new WaveWalk();
        x.net(1, 2);
        due.is("one place", x.alike(0, NONE), 1);
        x.mark(0, 0, true);
        due.is("one marked place", x.alike(0, NONE), 1);
        due.is("has class 0", x.alike(0, 0), 0);
        x.net(12, 2);
        x.mark(1, 11, true);
        due.is("the last one marked", x.alike(1, NONE), 2);
        due.is("its class", x.alike(1, 11), 1);
        due.is("of all others", x.alike(1, 10), 0);
        for (int place = 0; place < 11; place++) {
            x.mark(1, place, true);
        }
        due.is("all marked", x.alike(1, NONE), 1);
    }

    /** Five places with 0 to 4 doors to the marked ones. */
    private void classesByCounts() {
        WaveWalk x = new WaveWalk();
        x.net(8, 4);
        for (int marked = 5; marked < 8; marked++) {
            x.mark(0, marked, true);
        }
        int free = 0;
        for (int place = 0; place < 5; place++) {
            for (int door = 0; door < place; door++) {
                x.join(0, place, door, 5 + free / 4, free % 4);
                free++;
            }
        }
        for (int place = 0; place < 5; place++) {
            due.is("with " + place + " doors", x.alike(0, place), place);
        }

        WaveWalk y = new WaveWalk();
        y.net(4, 4);
        y.mark(0, 3, true);
        y.join(0, 0, 3, 3, 0);
        y.join(0, 1, 0, 3, 3);
        due.is("which door it is does not count", y.alike(0, 1), y.alike(0, 0));
        due.is("none leads there", y.alike(0, 2), 1);
        due.is("three classes", y.alike(0, NONE), 3);
        countsOfEachClass();
    }

    /** Place 5 has doors to classes 0, 0, 2, 2 and place 6 to 1, 1, 1, 2: each class counts by itself, not their sum. */
    private void countsOfEachClass() {
        WaveWalk x = new WaveWalk();
        x.net(9, 4);
        x.mark(0, 7, true);
        x.mark(0, 8, true);
        int[][] doors = {{5, 0, 0, 0}, {5, 1, 1, 0}, {6, 0, 2, 0}, {6, 1, 3, 0}, {6, 2, 4, 0},
            {7, 0, 0, 1}, {8, 0, 1, 1}, {7, 1, 2, 1}, {7, 2, 2, 2}, {7, 3, 3, 1}, {8, 1, 3, 2}, {8, 2, 4, 1}, {8, 3, 4, 2}};
        for (int[] d : doors) {
            x.join(0, d[0], d[1], d[2], d[3]);
        }
        int[] want = {0, 0, 1, 1, 1, 2, 3, 4, 4};
        for (int place = 0; place < want.length; place++) {
            due.is("class of " + place, x.alike(0, place), want[place]);
        }
        due.is("five classes", x.alike(0, NONE), 5);
    }

    private void doorsToTheOwnPlace() {
        WaveWalk x = new WaveWalk();
        x.net(5, 2);
        // Place 0 to itself by two doors, places 1 and 2 to one another, 3 to itself by joined doors.
        x.join(0, 1, 0, 2, 0);
        x.join(0, 1, 1, 2, 1);
        x.join(0, 3, 0, 3, 1);
        due.is("one class of five", x.alike(0, NONE), 1);
        x.mark(0, 4, true);
        due.is("none leads to the marked one", x.alike(0, NONE), 2);
        due.is("of one class with place 0", x.alike(0, 3), 0);
        x.join(0, 3, 1, 4, 0);
        due.is("now one leads there", x.alike(0, NONE), 3);
        due.is("so it is parted", x.alike(0, 3), 1);
    }

    private void partedToTheEnd() {
        WaveWalk x = Made.row(12);
        due.is("nothing to part by", x.alike(0, NONE), 1);
        x.mark(0, 11, true);
        due.is("as many as there are", x.alike(0, NONE), 12);
        x.mark(0, 11, false);
        x.mark(0, 5, true);
        // 5 is marked; 4 and 6, 3 and 7, .. 1 and 9 differ in the end, as the row ends sooner on one side.
        due.is("parted from both ends", x.alike(0, NONE), 12);
        x.mark(0, 6, true);
        due.is("the same from both sides", x.alike(0, NONE), 6);
        due.is("the ends", x.alike(0, 11), 0);
        due.is("the middle", x.alike(0, 6), 5);
        classesStayParted();
    }

    /** Nets of so many classes that a class's number and its counts must be kept well apart; doors as leads has them. */
    private void classesStayParted() {
        WaveWalk x = new WaveWalk();
        x.net(8, 3);
        int[][] eight = {{1, 29}, {2, 25}, {4, 21}, {5, 14}, {6, 26}, {8, 13}, {20, 28}};
        joinAll(x, 0, eight);
        for (int place : new int[] {4, 6, 7}) {
            x.mark(0, place, true);
        }
        due.is("eight of eight", x.alike(0, NONE), 8);
        x.net(12, 4);
        int[][] eleven = {{1, 21}, {2, 11}, {4, 10}, {5, 33}, {6, 32}, {7, 43}, {13, 15}, {16, 40}, {19, 39}, {23, 25}};
        joinAll(x, 1, eleven);
        x.mark(1, 3, true);
        x.mark(1, 8, true);
        due.is("eleven of twelve", x.alike(1, NONE), 11);
        due.is("the last place, all of whose doors lead to itself", x.alike(1, 11), 7);
        due.is("and one that is like it", x.alike(1, 7), 7);
    }

    private void joinAll(WaveWalk x, int net, int[][] doors) {
        for (int[] d : doors) {
            due.isTrue("join", x.join(net, d[0] / 4, d[0] % 4, d[1] / 4, d[1] % 4));
        }
    }

    private void classesByLeastPlaces() {
        WaveWalk x = Made.row(5);
        x.mark(0, 4, true);
        for (int place = 0; place < 5; place++) {
            due.is("parted last, numbered first: " + place, x.alike(0, place), place);
        }
        x.mark(0, 4, false);
        x.mark(0, 0, true);
        for (int place = 0; place < 5; place++) {
            due.is("marked is no number: " + place, x.alike(0, place), place);
        }
        x.mark(0, 4, true);
        int[] want = {0, 1, 2, 1, 0};
        for (int place = 0; place < 5; place++) {
            due.is("by the least: " + place, x.alike(0, place), want[place]);
        }
    }

    private void newObject() {
        WaveWalk x = new WaveWalk();
        due.is("nets", x.count(0), 0);
        due.is("walks", x.count(1), 0);
        for (int any : new int[] {0, NONE, 1, LEAST, MOST}) {
            due.noSuch("join", () -> x.join(any, 0, 0, 0, 0) ? 1 : 0);
            due.noSuch("leads", () -> x.leads(any, 0, 0));
            due.noSuch("mark", () -> x.mark(any, 0, true) ? 1 : 0);
            due.noSuch("alike", () -> x.alike(any, 0));
            due.noSuch("how many alike", () -> x.alike(any, NONE));
            due.noSuch("walk", () -> x.walk(any));
            new WalkNumbers(due).allRefuse(x, any);
        }
        due.is("no walk was made", x.count(1), 0);
        due.is("the first net", x.net(1, 2), 0);
        due.is("an object of its own", new WaveWalk().count(0), 0);
    }

    private void netNumbers() {
        WaveWalk x = new WaveWalk();
        due.is("least", x.net(1, 2), 0);
        due.is("greatest", x.net(12, 4), 1);
        due.is("the least one's last door", x.leads(0, 0, 1), 1);
        due.is("the greatest one's last door", x.leads(1, 11, 3), 47);
        due.is("one place, four doors", x.net(1, 4), 2);
        due.is("twelve places, two doors", x.net(12, 2), 3);
        due.is("three doors", x.net(12, 3), 4);
    }

    private void netsAreFull() {
        WaveWalk x = new WaveWalk();
        for (int i = 0; i < 6; i++) {
            x.net(1, 2);
        }
        due.refuses("as told", x, () -> x.net(1, 2), NONE);
        due.refuses("not as told", x, () -> x.net(0, 2), NONE);
        due.refuses("again", x, () -> x.net(12, 4), NONE);
        due.is("six", x.count(0), 6);
        due.is("the last is free still", x.walk(5), 0);
    }

    private void netNotAsTold() {
        WaveWalk x = new WaveWalk();
        for (int places : new int[] {0, -1, LEAST, 13, 14, 48, WRAPS, MOST}) {
            for (int doors = 2; doors <= 4; doors++) {
                int d = doors;
                due.refuses("places " + places, x, () -> x.net(places, d), NONE);
            }
        }
        for (int doors : new int[] {1, 0, -1, -2, LEAST, 5, 6, 8, WRAPS, MOST}) {
            due.refuses("doors " + doors, x, () -> x.net(1, doors), NONE);
            due.refuses("doors of 12 " + doors, x, () -> x.net(12, doors), NONE);
            due.refuses("neither as told", x, () -> x.net(doors - 5, doors), NONE);
        }
        due.is("a refused one takes no number", x.net(1, 2), 0);
        x.net(0, 2);
        due.is("nor behind the first", x.net(1, 2), 1);
    }

    private void joinAgain() {
        WaveWalk x = Made.twoPlaces(2);
        due.isTrue("the same two", x.join(0, 0, 0, 1, 0));
        due.is("lead to one another", x.leads(0, 0, 0), 4);
        due.isTrue("the other way round", x.join(0, 1, 0, 0, 0));
        due.is("lead to one another still", x.leads(0, 1, 0), 0);
        due.isTrue("crosswise", x.join(0, 0, 0, 1, 1));
        due.is("what one led to", x.leads(0, 1, 0), 4);
        due.is("what the other led to", x.leads(0, 0, 1), 1);
        due.is("crosswise there", x.leads(0, 0, 0), 5);
        due.is("crosswise back", x.leads(0, 1, 1), 0);
    }

    private void joinWithItself() {
        WaveWalk x = Made.twoPlaces(2);
        due.isTrue("a joined one", x.join(0, 0, 0, 0, 0));
        due.is("leads to itself", x.leads(0, 0, 0), 0);
        due.is("what it led to does too", x.leads(0, 1, 0), 4);
        due.is("others stay", x.leads(0, 0, 1), 5);
        due.isTrue("a free one", x.join(0, 0, 0, 0, 0));
        due.is("leads to itself still", x.leads(0, 0, 0), 0);
        WaveWalk one = new WaveWalk();
        one.net(1, 2);
        one.join(0, 0, 0, 0, 1);
        due.is("the least net's two doors", one.leads(0, 0, 0), 1);
        due.isTrue("its last door", one.join(0, 0, 1, 0, 1));
        due.is("door 0 is free", one.leads(0, 0, 0), 0);
        due.is("door 1 is free", one.leads(0, 0, 1), 1);
    }

    private void joinWithWalks() {
        WaveWalk x = Made.small();
        due.refuses("free doors or not", x, () -> x.join(0, 0, 0, 1, 1) ? 1 : 0, 0);
        due.refuses("with itself", x, () -> x.join(0, 1, 1, 1, 1) ? 1 : 0, 0);
        due.isTrue("the other net", x.join(1, 0, 2, 1, 2));
        x.spread(0, 0);
        due.refuses("the walk's weight is 0", x, () -> x.join(0, 0, 0, 1, 1) ? 1 : 0, 0);
        for (int i = 1; i < 12; i++) {
            x.walk(0);
        }
        due.is("a walk too many", x.walk(1), NONE);
        due.isTrue("leaves its net free", x.join(1, 0, 0, 1, 0));
    }

    private void joinNoSuch() {
        WaveWalk x = Made.small();
        for (int net = 0; net < 2; net++) {
            int doors = 2 + net;
            for (int wrong : new int[] {-1, LEAST, MOST, WRAPS, 12, 4}) {
                refuseJoin(x, net, wrong, 0, 0, 0);
                refuseJoin(x, net, 0, wrong, 0, 0);
                refuseJoin(x, net, 0, 0, wrong, 0);
                refuseJoin(x, net, 0, 0, 0, wrong);
            }
            refuseJoin(x, net, 2, 0, 0, 0);
            refuseJoin(x, net, 0, doors, 0, 0);
            refuseJoin(x, net, 0, 0, 2, 0);
            refuseJoin(x, net, 0, 0, 0, doors);
            due.ends("the last ones are there", () -> x.join(1, 1, 2, 1, 2), null);
        }
        for (int net : new int[] {-1, 2, 6, LEAST, MOST}) {
            refuseJoin(x, net, 0, 0, 0, 0);
        }
    }

    private void refuseJoin(WaveWalk x, int net, int place, int door, int other, int otherDoor) {
        due.ends("join " + net + " " + place + " " + door + " " + other + " " + otherDoor,
            () -> x.join(net, place, door, other, otherDoor), NoSuchElementException.class);
        due.is("a door stays", x.leads(0, 0, 0), 4);
        due.is("and one of the other net", x.leads(1, 0, 0), 0);
    }

    private void noSuchEverywhere() {
        for (int wrong : new int[] {-1, 2, 6, LEAST, MOST}) {
            WaveWalk x = Made.small();
            due.refuses("leads net", x, () -> x.leads(wrong, 0, 0), NoSuchElementException.class);
            due.refuses("mark net", x, () -> x.mark(wrong, 0, true), NoSuchElementException.class);
            due.refuses("alike net", x, () -> x.alike(wrong, 0), NoSuchElementException.class);
            due.refuses("how many of net", x, () -> x.alike(wrong, NONE), NoSuchElementException.class);
            due.refuses("walk net", x, () -> x.walk(wrong), NoSuchElementException.class);
        }
        for (int wrong : new int[] {2, 12, -2, LEAST, MOST, WRAPS, WRAPS + 1}) {
            WaveWalk x = Made.small();
            due.refuses("leads place", x, () -> x.leads(0, wrong, 0), NoSuchElementException.class);
            due.refuses("mark place", x, () -> x.mark(1, wrong, true), NoSuchElementException.class);
            due.refuses("mark place with walks", x, () -> x.mark(0, wrong, true), NoSuchElementException.class);
            due.refuses("alike place", x, () -> x.alike(0, wrong), NoSuchElementException.class);
        }
        for (int wrong : new int[] {2, 3, 4, -1, LEAST, MOST, WRAPS}) {
            WaveWalk x = Made.small();
            due.refuses("leads door", x, () -> x.leads(0, 1, wrong), NoSuchElementException.class);
        }
        WaveWalk x = Made.small();
        due.refuses("leads place NONE", x, () -> x.leads(0, NONE, 0), NoSuchElementException.class);
        due.refuses("mark place NONE", x, () -> x.mark(1, NONE, true), NoSuchElementException.class);
    }

    private void leadsLeastAndGreatest() {
        for (int doors = 2; doors <= 4; doors++) {
            WaveWalk x = new WaveWalk();
            x.net(12, doors);
            int last = doors - 1;
            due.is("the least", x.leads(0, 0, 0), 0);
            due.is("the greatest", x.leads(0, 11, last), 44 + last);
            due.is("4 times the place with any number of doors", x.leads(0, 1, 0), 4);
            x.join(0, 0, 0, 11, last);
            due.is("the greatest from the least", x.leads(0, 0, 0), 44 + last);
            due.is("the least from the greatest", x.leads(0, 11, last), 0);
        }
    }

    private void markOnAndOff() {
        WaveWalk x = new WaveWalk();
        x.net(12, 2);
        for (int place : new int[] {0, 11}) {
            due.isTrue("not marked, not to be", x.mark(0, place, false));
            due.is("is not", x.alike(0, NONE), 1);
            due.isTrue("to be", x.mark(0, place, true));
            due.is("is", x.alike(0, NONE), 2);
            due.isTrue("to be again", x.mark(0, place, true));
            due.is("is still", x.alike(0, NONE), 2);
            due.isTrue("not to be", x.mark(0, place, false));
            due.is("is not again", x.alike(0, NONE), 1);
        }
    }

    private void markWithWalks() {
        WaveWalk x = new WaveWalk();
        x.net(3, 2);
        x.mark(0, 1, true);
        x.net(3, 2);
        x.walk(0);
        for (int place = 0; place < 3; place++) {
            int p = place;
            due.refuses("mark " + p, x, () -> x.mark(0, p, true) ? 1 : 0, 0);
            due.refuses("unmark " + p, x, () -> x.mark(0, p, false) ? 1 : 0, 0);
        }
        due.isTrue("the other net", x.mark(1, 0, true));
        due.is("it is marked", x.alike(1, NONE), 2);
    }

    private void classesOfTheLastPlace() {
        WaveWalk x = Made.row(12);
        x.net(1, 2);
        x.mark(0, 0, true);
        due.is("the greatest class", x.alike(0, 11), 11);
        due.is("the least class", x.alike(0, 0), 0);
        due.is("the only place", x.alike(1, 0), 0);
        due.refuses("place 12", x, () -> x.alike(0, 12), NoSuchElementException.class);
        due.refuses("place 1 of one", x, () -> x.alike(1, 1), NoSuchElementException.class);
    }

    private void howManyClasses() {
        WaveWalk x = Made.row(12);
        x.net(1, 2);
        due.is("fewest", x.alike(0, -1), 1);
        due.is("of one place", x.alike(1, -1), 1);
        x.mark(0, 0, true);
        due.is("most", x.alike(0, NONE), 12);
        x.walk(0);
        due.is("with walks", x.alike(0, NONE), 12);
        due.refuses("below NONE", x, () -> x.alike(0, -2), NoSuchElementException.class);
        due.refuses("far below NONE", x, () -> x.alike(0, LEAST), NoSuchElementException.class);
    }
}
