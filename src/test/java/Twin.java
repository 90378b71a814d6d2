import java.util.ArrayList;
import java.util.List;
import java.util.function.Supplier;

/**
 * An object that is tried, and another one, furnished alike, that is left alone: what is refused, and
 * what is only asked, must leave the two alike.
 */
final class Twin {

    interface Call {
        long on(BiteFirst x);
    }

    private final String promise;
    private final BiteFirst tried;
    private final BiteFirst alone;

    Twin(String promise, Supplier<BiteFirst> table) {
        this.promise = promise;
        tried = table.get();
        alone = table.get();
    }

    /** Each of the calls answers so, by this sentence. */
    Twin is(String sentence, long want, Call... calls) {
        for (int k = 0; k < calls.length; k++) {
            Due.is(promise + ": " + sentence + " [" + k + "]", calls[k].on(tried), want);
        }
        return this;
    }

    /** The calls changed nothing that can be asked for. */
    void areAlike() {
        List<String> got = new Probe(tried).all();
        List<String> want = new Probe(alone).all();
        for (int k = 0; k < Math.max(got.size(), want.size()); k++) {
            String a = k < got.size() ? got.get(k) : "nothing";
            String b = k < want.size() ? want.get(k) : "nothing";
            if (!a.equals(b)) {
                Due.isTrue(promise + ": nothing has changed, but " + a + ", was " + b, false);
                return;
            }
        }
        Due.isTrue(promise + ": nothing has changed", got.size() > 20);
    }

    /** Asks an object for all that it keeps: at its end, for it is no longer what it was then. */
    private static final class Probe {
        private final BiteFirst x;
        private final List<String> all = new ArrayList<>();

        Probe(BiteFirst x) {
            this.x = x;
        }

        List<String> all() {
            scene("now");
            tell("back", x.back());
            scene("the image");
            sheets();
            tell("text", x.text());
            tell("tape", x.count(5));
            texts();
            return all;
        }

        private void tell(String what, long answer) {
            all.add(what + ": " + answer);
        }

        private void scene(String which) {
            for (int what = 0; what < 6; what++) {
                tell(which + ", count " + what, x.count(what));
            }
            for (int e = 0; e < x.count(0); e++) {
                for (int what = 0; what < 5; what++) {
                    tell(which + ", eater " + e + ", " + what, x.told(e, what));
                }
            }
            for (int g = 0; g < x.count(1); g++) {
                for (int what = 0; what < 12; what++) {
                    tell(which + ", good " + g + ", " + what, x.part(g, what));
                }
            }
        }

        /** The sorts and sizes of the sheets, and their numbers as eaters that come of them. */
        private void sheets() {
            x.image();
            for (int s = 0; s < 4; s++) {
                tell("the day of " + s, x.judge(s));
                for (int sort = 0; sort < 3; sort++) {
                    tell("sheet " + s + " of sort " + sort, x.eatersBy(s, sort, 0, 0));
                }
                int size = 40;
                while (size > 0 && x.copy(s, size, s, size, 0) == -12) {
                    size -= size > 8 ? 32 : 1;
                }
                tell("size of " + s, size);
                for (int i = 0; i + 1 < size && i < 5; i++) {
                    numbers(s, i);
                }
            }
        }

        private void numbers(int s, int i) {
            for (int sort = 0; sort < 3; sort++) {
                if (x.eatersBy(s, sort, i, 1) == 1) {
                    int e = x.count(0) - 1;
                    tell("numbers of " + s + " at " + i, 1000 * x.told(e, 0) + 100 * x.told(e, 1) + x.told(e, 2));
                    x.back();
                }
            }
        }

        /** What the texts say, of an eater and a good that come for it. */
        private void texts() {
            x.eater(3, 1);
            x.good(2, 1);
            for (int t = 0; t < x.count(3); t++) {
                x.force(t);
                for (int part = 0; part < 3; part++) {
                    tell("text " + t + " says " + part, x.asks(part, 0, 0, 207));
                }
            }
        }
    }
}
