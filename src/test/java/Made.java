/** Small objects that many tests begin with. */
final class Made {
    private Made() {
    }

    /** Net 0: one place, all of whose doors lead to themselves; walk 0 with 1 at door 0. */
    static WaveWalk onePlace(int doors) {
        WaveWalk x = new WaveWalk();
        x.net(1, doors);
        x.walk(0);
        x.set(0, 0, 0, 1);
        return x;
    }

    /** Net 0: two places, each door to the like one of the other place; no walk. */
    static WaveWalk twoPlaces(int doors) {
        WaveWalk x = new WaveWalk();
        x.net(2, doors);
        for (int door = 0; door < doors; door++) {
            x.join(0, 0, door, 1, door);
        }
        return x;
    }

    /** The same with walk 0, which has 1 at door 0 of place 0: each step takes all to the other place. */
    static WaveWalk goingToAndFro(int doors) {
        WaveWalk x = twoPlaces(doors);
        x.walk(0);
        x.set(0, 0, 0, 1);
        return x;
    }

    /** Net 0: a row of places with two doors, door 1 of each to door 0 of the next; no walk. */
    static WaveWalk row(int places) {
        WaveWalk x = new WaveWalk();
        x.net(places, 2);
        for (int place = 0; place + 1 < places; place++) {
            x.join(0, place, 1, place + 1, 0);
        }
        return x;
    }

    /** Two nets of two places, the second one without walks; walk 0 is at time 3. */
    static WaveWalk small() {
        WaveWalk x = twoPlaces(2);
        x.net(2, 3);
        x.walk(0);
        x.set(0, 0, 0, 3);
        x.set(0, 1, 1, -2);
        x.step(0, 3);
        return x;
    }

    /** Sets the numbers of a walk, place by place and door by door, from time 0 on. */
    static void tell(WaveWalk x, int walk, int doors, int... numbers) {
        x.spread(walk, 0);
        for (int i = 0; i < numbers.length; i++) {
            x.set(walk, i / doors, i % doors, numbers[i]);
        }
    }
}
