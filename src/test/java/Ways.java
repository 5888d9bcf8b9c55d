import java.util.ArrayList;
import java.util.List;

/** The twins' acts as the host's own classes have them: interfaces' default methods, overriding and super. */
final class Ways {
    static final Class<?>[] CLASSES = {
        Twin.class, Hatted.class, Home.class, Belled.class, Bride.class, Dead.class, Seen.class, Passed.class};

    final List<Integer> trace = new ArrayList<>();

    interface Looks {
        int number();

        void ran(int body);

        default int looks(int x) {
            ran(1);
            return x + number();
        }
    }

    interface Tells {
        int walks(int x);

        int waits(int x);

        void ran(int body);

        default int tells(int x) {
            ran(2);
            return walks(x) - waits(1);
        }
    }

    static class Twin implements Looks, Tells {
        Ways ways;
        int kind, n;

        public int number() {
            return n;
        }

        public void ran(int body) {
            ways.trace.add(body);
        }

        public int walks(int x) {
            ran(10);
            return looks(x) * 2;
        }

        public int waits(int x) {
            ran(11);
            return x ^ n;
        }
    }

    static class Hatted extends Twin {
        public int looks(int x) {
            ran(20);
            return super.looks(x) + 3;
        }
    }

    static class Home extends Twin {
        public int walks(int x) {
            ran(30);
            return -super.walks(x);
        }
    }

    static class Belled extends Home {
        public int waits(int x) {
            ran(40);
            return super.waits(x) * 3;
        }

        public int walks(int x) {
            ran(41);
            return super.walks(x + 1);
        }
    }

    static class Bride extends Hatted {
        public int waits(int x) {
            ran(50);
            return super.waits(x) - looks(2);
        }
    }

    static class Dead extends Belled {
        public int tells(int x) {
            ran(60);
            return super.tells(x) ^ 5;
        }
    }

    static class Seen extends Twin {
        public int looks(int x) {
            ran(70);
            return super.looks(x) * 2;
        }
    }

    static class Passed extends Bride {
        public int walks(int x) {
            ran(80);
            return super.walks(x) + waits(2);
        }

        public int tells(int x) {
            ran(81);
            return super.tells(x) - 1;
        }
    }

    Twin twin(int kind, int n) {
        Twin twin;
        switch (kind) {
            case 0: twin = new Twin(); break;
            case 1: twin = new Hatted(); break;
            case 2: twin = new Home(); break;
            case 3: twin = new Belled(); break;
            case 4: twin = new Bride(); break;
            case 5: twin = new Dead(); break;
            case 6: twin = new Seen(); break;
            default: twin = new Passed();
        }
        twin.ways = this;
        twin.kind = kind;
        twin.n = n;
        return twin;
    }
}
