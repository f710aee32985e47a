import java.util.function.Supplier;

/** Courts for tests of single calls: one just made, one with something of all, one that is full. */
enum Courts implements Supplier<SalvageCourt> {
    FRESH {
        @Override
        public SalvageCourt get() {
            return new SalvageCourt();
        }
    },

    BUSY {
        @Override
        public SalvageCourt get() {
            SalvageCourt x = new SalvageCourt();
            tellHours(x);
            Due.tellLaw(x, "weigh skill 3;like 9;give mean;else 40;life 2;late 100 after 10;", 0);
            tellWorthAndCases(x);
            x.suit(20000, 4);
            tellShips(x);
            x.judge(7, 60);
            // What is told behind the judgement, so that it differs from what would be judged now.
            x.suit(30000, 6);
            x.sheet(4, 0x4321, 0, 0, 0);
            Due.put(x, "give least;else 9;");
            return x;
        }
    },

    FULL {
        @Override
        public SalvageCourt get() {
            SalvageCourt x = new SalvageCourt();
            for (int i = 0; i < 6; i++) {
                Due.tellLaw(x, "give middle;life 1;", 10 * i);
            }
            for (int i = 0; i < 40; i++) {
                x.says(i % 6, i % 15, i % 15 + 1, i, i + 20);
                x.earlier(11111 + i, 25 * i, i);
            }
            for (int i = 0; i < 60; i++) {
                x.value(i % 10, 1000 * i, i, i);
            }
            x.sheet(60, 0x1234567891234567L, 0x1234567891234567L, 0x1234567891234567L, 0x567891234567L);
            for (int i = 0; i < 8; i++) {
                x.ship(i + 1, 0, i + 1, 10 * i, 5 * i, i);
            }
            for (int i = 0; i < 15; i++) {
                x.feed(0x20202020, 0x20202020, 0x20202020, 0x20202020, 0x20202020);
            }
            x.judge(0, 100);
            x.clock(5000);
            return x;
        }
    };

    /** What BUSY has of each. */
    static final int DAY = 7;
    static final int SAYINGS = 5;
    static final int QUARRELLING = 3;
    static final int VALUES = 4;
    static final int CASES = 4;
    static final int OVERRULED = 1;
    static final int LIKE = 2;
    static final int SHIPS = 3;
    static final int HANDS = 3;
    static final int BYTES = 18;

    /** Things 0, 7 and 15 in a row; log 5, trusted most, against log 2, trusted least. */
    private static void tellHours(SalvageCourt x) {
        x.trust(5, 8);
        x.trust(2, 1);
        x.says(0, 0, 7, 5, 9);
        x.says(1, 7, 15, 2, 4);
        x.says(2, 0, 15, 20, 30);
        x.says(5, 0, 15, 8, 12);
        x.says(0, 3, 4, -6, -5);
    }

    private static void tellWorthAndCases(SalvageCourt x) {
        x.value(0, 5000, 400, 0);
        x.value(9, 700, 0, 20);
        x.earlier(20100, 300, 10);
        x.earlier(20200, 200, 10);
        x.clock(5);
        x.value(0, 6000, 0, 30);
        x.overrule(OVERRULED, 50);
        x.earlier(99999, 500, 40);
        x.earlier(23000, 81, 0);
        x.clock(DAY);
        x.value(4, 90, 100, 1);
    }

    private static void tellShips(SalvageCourt x) {
        x.sheet(HANDS, 0x312, 0, 0, 0);
        x.ship(10, 0, 15, 0, 30, 20);
        x.ship(15, 0, 7, 75, 0, 0);
        x.ship(20, 3, 4, 0, 50, 50);
    }
}
