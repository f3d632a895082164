import java.util.ArrayList;
import java.util.List;
import java.util.function.Consumer;

/**
 * Learns an object's state by calls, most of which change it: so each sounding is made on an object of its own,
 * brought to the state by the same rows. Two objects in the same state answer every sounding alike.
 */
final class Sounding {
    private static final int MOST_CALLS = 512;

    private static final List<Consumer<Sounding>> ALL = List.of(
            Sounding::looks, Sounding::stores, Sounding::ports, Sounding::binds, Sounding::gives, Sounding::ends,
            Sounding::unmaps, Sounding::rooms, Sounding::attaches, Sounding::serves, Sounding::reaps, Sounding::deaths,
            s -> s.loads(0), s -> s.loads(1), s -> s.loads(2), s -> s.loads(3), s -> s.loads(4),
            s -> s.maps(0), s -> s.maps(1), s -> s.maps(2), s -> s.maps(3), s -> s.maps(4));

    private final GrantRing x = new GrantRing();
    private final List<Row> heard = new ArrayList<>();
    private int left;

    private Sounding(List<Row> run, int left) {
        this.left = left;
        for (Row row : run) {
            row.make(x);
        }
    }

    static List<Row> with(List<Row> rows, Row last) {
        List<Row> all = new ArrayList<>(rows);
        all.add(last);
        return all;
    }

    /** The first call that objects after the two runs answer differently, or null. */
    static String difference(List<Row> run, List<Row> otherRun) {
        int left = MOST_CALLS - Math.max(run.size(), otherRun.size());
        for (Consumer<Sounding> sounding : ALL) {
            Sounding one = new Sounding(run, left);
            Sounding other = new Sounding(otherRun, left);
            sounding.accept(one);
            sounding.accept(other);
            String found = firstDifference(one.heard, other.heard);
            if (found != null) {
                return found;
            }
        }
        return null;
    }

    private static String firstDifference(List<Row> one, List<Row> other) {
        for (int i = 0; i < Math.min(one.size(), other.size()); i++) {
            if (one.get(i).answer() != other.get(i).answer()) {
                return one.get(i).call() + " answers " + one.get(i).answer() + " or " + other.get(i).answer();
            }
        }
        return null;
    }

    private long ask(String name, int... arguments) {
        if (left == 0) {
            return 0;
        }
        left--;
        long answer = Calls.make(x, name, arguments);
        heard.add(new Row(name, arguments, answer));
        return answer;
    }

    private void looks() {
        lookAt(0, 5, 1);
        lookAt(1, 20, 1);
        lookAt(2, 5, 6);
        lookAt(3, 5, 5);
        lookAt(4, 5, 1);
        lookAt(5, 3, 8);
        lookAt(6, 3, 1);
    }

    private void lookAt(int what, int countA, int countB) {
        for (int a = 0; a < countA; a++) {
            for (int b = 0; b < countB; b++) {
                ask("look", what, a, b);
            }
        }
    }

    private void loads(int d) {
        for (int p = 0; p < 20; p++) {
            for (int w = 0; w < 8; w++) {
                ask("load", d, p, w);
            }
        }
    }

    private void stores() {
        for (int d = 0; d < 5; d++) {
            for (int p = 0; p < 20; p++) {
                ask("store", d, p, 7, 1000 * d + p);
            }
        }
    }

    private void ports() {
        hearAll();
        for (int d = 0; d < 5; d++) {
            for (int port = 0; port < 4; port++) {
                ask("send", d, port);
                hearAll();
            }
        }
    }

    private void hearAll() {
        for (int d = 0; d < 5; d++) {
            for (int i = 0; i < 5 && ask("next", d) >= 0; i++) {
                continue;
            }
        }
    }

    private void binds() {
        for (int t = 0; t < 5; t++) {
            for (int port = 0; port < 4; port++) {
                for (int d = 0; d < 5; d++) {
                    ask("bind", d, t, port);
                }
            }
        }
    }

    private void maps(int from) {
        unmapAll();
        for (int ref = 0; ref < 6; ref++) {
            for (int d = 0; d < 5; d++) {
                for (int writing = 0; writing < 2; writing++) {
                    ask("map", d, from, ref, writing);
                    ask("unmap", d, 0);
                }
            }
        }
    }

    private void unmapAll() {
        for (int d = 0; d < 5; d++) {
            for (int h = 0; h < 5; h++) {
                ask("unmap", d, h);
            }
        }
    }

    private void gives() {
        for (int d = 0; d < 5; d++) {
            long page = ask("alloc", d);
            for (int to = 0; to < 5; to++) {
                for (int ref = 0; ref < 6 && page >= 0; ref++) {
                    boolean given = ask("give", d, (int) page, to, ref) == 0;
                    page = given ? ask("alloc", d) : page;
                }
            }
        }
    }

    private void ends() {
        for (int d = 0; d < 5; d++) {
            for (int ref = 0; ref < 6; ref++) {
                ask("end", d, ref);
            }
            for (int p = 0; p < 20; p++) {
                ask("free", d, p);
            }
        }
    }

    private void unmaps() {
        unmapAll();
        looks();
    }

    private void rooms() {
        for (int i = 0; i < 6; i++) {
            ask("create");
        }
        for (int i = 0; i < 7; i++) {
            for (int d = 0; d < 5; d++) {
                ask("alloc", d);
                ask("grant", d, (d + 1) % 5, 0, 2);
                ask("open", d, (d + 1) % 5);
            }
        }
    }

    private void attaches() {
        for (int f = 0; f < 5; f++) {
            for (int b = 0; b < 5; b++) {
                ask("attach", f, b);
            }
        }
        serves();
    }

    private void serves() {
        for (int i = 0; i < 3; i++) {
            for (int k = 0; k < 4; k++) {
                ask("serve", i);
            }
        }
        reaps();
    }

    private void reaps() {
        for (int i = 0; i < 3; i++) {
            for (int k = 0; k < 4; k++) {
                ask("reap", i);
                ask("submit", i, k % 2, k, 50 + k);
            }
            for (int k = 0; k < 4; k++) {
                ask("serve", i);
                ask("reap", i);
            }
        }
        lookAt(5, 3, 8);
        lookAt(1, 20, 1);
    }

    private void deaths() {
        for (int d = 0; d < 5; d++) {
            ask("destroy", d);
            lookAt(0, 5, 1);
            lookAt(1, 20, 1);
            lookAt(6, 3, 1);
        }
        for (int i = 0; i < 6; i++) {
            ask("create");
        }
    }
}
