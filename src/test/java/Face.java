/** The methods of the class by their names; a boolean counts 1 or 0. */
final class Face {
    private Face() {
    }

    static long call(PuppetCourt court, String name, int a, int b, int c, int[] words) {
        switch (name) {
            case "feed":
                return court.feed(words[0], words[1], words[2], words[3], words[4]);
            case "back":
                return court.back(a);
            case "read":
                return court.read();
            case "place":
                return court.place();
            case "puppet":
                return court.puppet(a, b);
            case "string":
                return court.string(a, b);
            case "court":
                return court.court(a);
            case "may":
                return court.may(a);
            case "pull":
                return court.pull(a);
            case "pass":
                return court.pass();
            case "open":
                return court.open();
            case "undo":
                return court.undo() ? 1 : 0;
            case "after":
                return court.after(a, b);
            case "shortest":
                return court.shortest(a, b);
            case "force":
                return court.force(a, b);
            case "straight":
                return court.straight();
            case "reach":
                return court.reach(a, b);
            case "strong":
                return court.strong(a);
            default:
                return more(court, name, a, b, c);
        }
    }

    private static long more(PuppetCourt court, String name, int a, int b, int c) {
        switch (name) {
            case "free":
                return court.free(a);
            case "worn":
                return court.worn();
            case "verdicts":
                return court.verdicts();
            case "half":
                return court.half((a & 1) == 1);
            case "jury":
                return court.jury(a, (b & 1) == 1);
            case "precedent":
                return court.precedent(a, b);
            case "nearest":
                return court.nearest(a);
            case "clashes":
                return court.clashes();
            case "paint":
                return court.paint(a);
            case "storms":
                return court.storms(a, b, c);
            case "tell":
                return court.tell(a, b, c);
            case "forget":
                return court.forget();
            case "cloth":
                return court.cloth(a, b);
            case "sure":
                return court.sure(a, b, c);
            case "look":
                return court.look(a, b);
            case "hold":
                return court.hold(a) ? 1 : 0;
            case "restore":
                return court.restore(a) ? 1 : 0;
            case "count":
                return court.count(a);
            default:
                throw new IllegalArgumentException(name);
        }
    }
}
