import java.util.NoSuchElementException;

/** Every call that takes a walk's number, with one that there is not. */
final class WalkNumbers {
    private final Due due;

    WalkNumbers(Due due) {
        this.due = due;
    }

    void allRefuse(WaveWalk x, int walk) {
        due.noSuch("set " + walk, () -> x.set(walk, 0, 0, 1) ? 1 : 0);
        due.ends("spread " + walk, () -> x.spread(walk, 1), NoSuchElementException.class);
        due.noSuch("step " + walk, () -> x.step(walk, 0));
        due.noSuch("back " + walk, () -> x.back(walk, 0));
        due.noSuch("at " + walk, () -> x.at(walk, 0, 0));
        due.noSuch("share " + walk, () -> x.share(walk, 0));
        due.noSuch("weight " + walk, () -> x.share(walk, WaveWalk.NONE));
        due.noSuch("of " + walk, () -> x.of(walk, 0));
        due.noSuch("arrives " + walk, () -> x.arrives(walk, 0, 0));
        due.noSuch("returns " + walk, () -> x.returns(walk, 0));
        due.noSuch("best " + walk, () -> x.best(walk, 0));
        due.noSuch("mean " + walk, () -> x.mean(walk, 0, 0));
        due.ends("copy to " + walk, () -> x.copy(walk, 0), NoSuchElementException.class);
        due.ends("copy from " + walk, () -> x.copy(0, walk), NoSuchElementException.class);
        due.ends("copy to and from " + walk, () -> x.copy(walk, walk), NoSuchElementException.class);
    }

    /** Every call that takes a place of a walk's net, and every one that takes a door. */
    void allRefusePlace(WaveWalk x, int walk, int place) {
        due.noSuch("set at place " + place, () -> x.set(walk, place, 0, 1) ? 1 : 0);
        due.noSuch("at place " + place, () -> x.at(walk, place, 0));
        due.noSuch("arrives at place " + place, () -> x.arrives(walk, place, 0));
        due.noSuch("mean of place " + place, () -> x.mean(walk, place, 0));
        if (place != WaveWalk.NONE) {
            due.noSuch("share of place " + place, () -> x.share(walk, place));
        }
    }

    void allRefuseDoor(WaveWalk x, int walk, int door) {
        due.noSuch("set at door " + door, () -> x.set(walk, 0, door, 1) ? 1 : 0);
        due.noSuch("at door " + door, () -> x.at(walk, 0, door));
    }
}
