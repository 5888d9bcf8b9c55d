import java.util.ArrayList;
import java.util.List;
import java.util.function.Supplier;

/**
 * All that calls can tell of an object's state. Each part is read from an object made anew by the same calls,
 * for reading some of it changes it, and an object serves 512 calls.
 */
final class Look {
    private final Supplier<TwoAlike> made;
    private final List<Long> seen = new ArrayList<>();

    private Look(Supplier<TwoAlike> made) {
        this.made = made;
    }

    static List<Long> at(Supplier<TwoAlike> made) {
        Look look = new Look(made);
        look.numbers();
        look.plans();
        look.likeness(made.get());
        look.toldDays(false);
        look.toldDays(true);
        look.changes();
        look.twins();
        look.shelves();
        look.law();
        return look.seen;
    }

    private void see(long answer) {
        seen.add(answer);
    }

    private void numbers() {
        TwoAlike x = made.get();
        for (int what = 0; what < 7; what++) see(x.count(what));
        for (int p = 0; p < 7; p++) {
            for (int what = 0; what < 7; what++) see(x.of(p, what));
            see(x.led(p, 0));
            see(x.led(p, 1));
        }
        see(x.of(0, 10));
        see(x.of(0, 11));
        for (int i = 0; i < 24; i++) see(x.trace(i));
        sights(x);
    }

    private void sights(TwoAlike x) {
        for (int s = 0; s < 10; s++) {
            for (int what = 20; what < 23; what++) see(x.of(s, what));
        }
    }

    private void plans() {
        TwoAlike x = made.get();
        for (int p = 0; p < 7; p++) {
            for (int minute = 0; minute < 30; minute++) see(x.where(p, minute));
            see(x.waited(p, 0));
            see(x.waited(p, 1));
        }
    }

    private void likeness(TwoAlike x) {
        for (int p = 0; p < 7; p++) {
            for (int q = 0; q < 7; q++) see(x.alike(10 * p + q));
            see(x.bars(p));
            see(x.hats(p));
            see(x.best(p));
        }
        for (int n = 1; n <= 12; n++) see(x.months(n));
        see(x.needs());
        see(x.kinds(1));
    }

    /** As they are, or as the image has them. Nobody's day can be read but against another one's. */
    private void toldDays(boolean inImage) {
        TwoAlike x = made.get();
        if (inImage) {
            see(x.back());
            for (int p = 0; p < 7; p++) see(x.of(p, 3));
            sights(x);
        }
        int size = x.count(0);
        int probe = size < 7 ? x.person(0, 0) : 6;
        for (int p = 0; p < size && p != probe; p++) toldDay(x, p, probe);
        if (size < 7) return;
        x = made.get();
        if (inImage) x.back();
        toldDay(x, 6, 0);
    }

    private void toldDay(TwoAlike x, int p, int probe) {
        x.go(probe, 29, -1);
        int at = 0;
        for (int k = 0; k <= 30 && at >= 0; k++) {
            at = x.watch(10 * p + probe, 0);
            see(at);
            if (at >= 0) x.go(probe, 101 * (at / 10), at % 10);
        }
    }

    private void changes() {
        int size = made.get().count(0);
        for (int p = 0; p == 0 || p < size; p++) {
            TwoAlike x = made.get();
            for (int k = 0; k < 41; k++) {
                see(x.undo());
                mended(x, p);
            }
            x = made.get();
            for (int k = 0; k < 41; k++) {
                see(x.redo());
                mended(x, p);
            }
        }
    }

    private void mended(TwoAlike x, int p) {
        for (int what = 0; what < 3; what++) see(x.of(p, what));
        see(x.of(0, 10));
        see(x.of(0, 11));
    }

    private void twins() {
        TwoAlike x = made.get();
        int size = x.count(5);
        for (int body = 0; body < size; body++) {
            for (int act = 0; act < 4; act++) see(x.act(body, act, 5));
            see(x.count(6));
        }
    }

    private void shelves() {
        for (int shelf = 0; shelf < 6; shelf++) {
            TwoAlike x = made.get();
            for (int i = -1; i <= 60; i++) see(x.element(shelf, i));
            for (int k = 0; k < 8; k++) see(x.taken(shelf, k));
            int other = (shelf + 1) % 6;
            for (int sort = 0; sort < 5; sort++) {
                x.row(other, sort, 0);
                see(x.shift(shelf, 0, other, 0, 0));
            }
            for (int i = 0; i <= 60; i++) see(x.put(shelf, i, 0));
        }
    }

    private void law() {
        TwoAlike x = made.get();
        see(x.law());
        likeness(x);
    }
}
