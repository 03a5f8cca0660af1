/** Asks an object by a call's name and arguments. */
final class Calls {
    private Calls() { }

    static int ask(WagonSidings x, String name, int[] a) {
        switch (name) {
            case "wagon": return x.wagon(a[0], a[1]);
            case "couple": return x.couple(a[0], a[1]);
            case "stand": return x.stand(a[0], a[1]);
            case "signal": return x.signal(a[0], a[1]);
            case "wagonAt": return x.wagonAt(a[0], a[1]);
            case "load": return x.load(a[0], a[1], a[2]);
            case "cut": return x.cut(a[0], a[1]);
            case "hoot": return x.hoot(a[0], a[1]);
            case "pull": return x.pull(a[0], a[1]);
            case "loadAs": return x.loadAs(a[0], a[1], a[2]);
            case "rake": return x.rake(a[0], a[1], a[2]);
            case "drop": return x.drop(a[0]);
            case "lay": return x.lay(a[0], a[1]);
            case "places": return x.places(a[0]);
            case "loadOn": return x.loadOn(a[0], a[1]);
            case "table": return x.table(a[0], a[1], a[2]);
            case "add": return x.add(a[0], a[1], a[2], a[3]);
            case "raise": return x.raise(a[0]);
            case "told": return x.told(a[0]);
            case "about": return x.about(a[0], a[1]);
            case "onRake": return x.onRake(a[0], a[1]);
            default: throw new IllegalArgumentException("no call " + name);
        }
    }
}
