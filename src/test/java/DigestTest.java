/** Promise 23: digest, against what the calls tell, and that it changes with each of them. */
public final class DigestTest {
    public static void main(String[] args) {
        CoveSignals x = new CoveSignals();
        Check.due("digest of a new object", x.digest(), computed(x, new int[0][]));
        x.setRoom(3, 20);
        x.setCode(1, 3);
        x.setCode(7, 12);
        x.lantern(5);
        x.lantern(8);
        int[][] tables = {{1, 1, 1, 0, 0, 2, 0, 0, 0, 7}, {0, 7, 0, 0, 7, 0, 0, 3, 0, 0}};
        for (int lantern = 0; lantern < 2; lantern++) {
            for (int hour = 0; hour < 10; hour++) {
                x.setShow(lantern, hour, tables[lantern][hour]);
            }
        }
        Check.due("digest with lanterns", x.digest(), computed(x, tables));
        x.watchman(6, 9, 1);
        x.watchman(1, 2, 0);
        Check.due("digest with watchmen", x.digest(), computed(x, tables));
        x.boat(6, 11);
        x.boat(10, 20);
        x.boat(14, 3);
        x.send(2, 12);
        Check.due("digest with boats", x.digest(), computed(x, tables));
        for (int i = 0; i < 30; i++) {
            long before = x.digest();
            x.pass(1);
            Check.due("digest in hour " + x.count(0), x.digest(), computed(x, tables));
            Check.due("another digest", x.digest() == before ? 1 : 0, 0);
        }
        Check.end("DigestTest");
    }

    private static long computed(CoveSignals x, int[][] tables) {
        java.util.List<Integer> all = new java.util.ArrayList<>();
        for (int what = 0; what <= 10; what++) {
            all.add(x.count(what));
        }
        for (int i = 0; i < 80; i++) {
            all.add(x.place(i / 5, i % 5));
        }
        for (int i = 0; i < 28; i++) {
            all.add(x.code(1 + i / 4, i % 4));
        }
        for (int lantern = 0; lantern < tables.length; lantern++) {
            for (int what = 0; what <= 3; what++) {
                all.add(x.light(lantern, what));
            }
            for (int code : tables[lantern]) {
                all.add(code);
            }
        }
        for (int i = 0; i < 5 * x.count(2); i++) {
            all.add(x.about(i / 5, i % 5));
        }
        for (int i = 0; i < 7 * x.count(3); i++) {
            all.add(x.told(i / 7, i % 7));
        }
        java.math.BigInteger d = java.math.BigInteger.valueOf(1669);
        for (int number : all) {
            d = d.multiply(java.math.BigInteger.valueOf(31)).add(java.math.BigInteger.valueOf(number));
        }
        return d.longValue();
    }
}
