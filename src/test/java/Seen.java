import java.util.NoSuchElementException;

/** All that can be seen of an object, as a text: what is refused must not change it. */
final class Seen {
    private static final long NOT_THERE = Long.MIN_VALUE;

    private Seen() {
    }

    static String of(WaveWalk x) {
        StringBuilder all = new StringBuilder();
        int nets = x.count(0);
        for (int i = 0; i < nets; i++) {
            int net = i;
            all.append(" net ").append(net);
            int places = addAll(all, (place, door) -> x.leads(net, place, door));
            for (int place = 0; place < places; place++) {
                all.append(" class ").append(x.alike(net, place));
            }
        }
        int walks = x.count(1);
        for (int i = 0; i < walks; i++) {
            int walk = i;
            all.append(" walk ").append(walk).append(" on ").append(x.of(walk, 0)).append(" at ").append(x.of(walk, 1));
            addAll(all, (place, door) -> x.at(walk, place, door));
        }
        return all.toString();
    }

    private interface Look {
        long at(int place, int door);
    }

    /** Adds what is seen at each door of each place that is there; how many places there are. */
    private static int addAll(StringBuilder all, Look look) {
        int place = 0;
        while (addPlace(all, look, place)) {
            place++;
        }
        return place;
    }

    private static boolean addPlace(StringBuilder all, Look look, int place) {
        int door = 0;
        for (long seen = lookAt(look, place, 0); seen != NOT_THERE; seen = lookAt(look, place, door)) {
            all.append(door == 0 ? " | " : " ").append(seen);
            door++;
        }
        return door > 0;
    }

    private static long lookAt(Look look, int place, int door) {
        try {
            return look.at(place, door);
        } catch (NoSuchElementException e) {
            return NOT_THERE;
        }
    }
}
