/** The class, asked by a call's name: answers are texts, as those of the model are. */
final class Asked {
    private Asked() {
    }

    static String answer(WaveWalk x, String name, int... a) {
        try {
            return call(x, name, a);
        } catch (RuntimeException e) {
            return e.getClass().getSimpleName();
        }
    }

    private static String call(WaveWalk x, String name, int[] a) {
        switch (name) {
            case "net": return "" + x.net(a[0], a[1]);
            case "join": return "" + x.join(a[0], a[1], a[2], a[3], a[4]);
            case "leads": return "" + x.leads(a[0], a[1], a[2]);
            case "mark": return "" + x.mark(a[0], a[1], a[2] != 0);
            case "alike": return "" + x.alike(a[0], a[1]);
            case "walk": return "" + x.walk(a[0]);
            case "set": return "" + x.set(a[0], a[1], a[2], a[3]);
            case "spread": x.spread(a[0], a[1]); return "void";
            case "step": return "" + x.step(a[0], a[1]);
            case "back": return "" + x.back(a[0], a[1]);
            case "at": return "" + x.at(a[0], a[1], a[2]);
            case "share": return "" + x.share(a[0], a[1]);
            case "of": return "" + x.of(a[0], a[1]);
            case "arrives": return "" + x.arrives(a[0], a[1], a[2]);
            case "returns": return "" + x.returns(a[0], a[1]);
            case "best": return "" + x.best(a[0], a[1]);
            case "mean": return "" + x.mean(a[0], a[1], a[2]);
            case "copy": x.copy(a[0], a[1]); return "void";
            case "count": return "" + x.count(a[0]);
            default: throw new IllegalStateException(name);
        }
    }
}
