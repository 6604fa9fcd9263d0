import java.util.Arrays;

/** Promises 3, 4 and 12: the tape, what is a transaction, its ID and its bytes. */
public final class TapeTest {
    private static final Checks CHECKS = new Checks();
    private static final Class<?> ARGUMENT = IllegalArgumentException.class;
    private static final Class<?> STATE = IllegalStateException.class;

    public static void main(String[] args) {
        lengthOfTheTape();
        wrongLengths();
        wrongRows();
        edgesOfARow();
        firstBytesOnly();
        knownOnes();
        bytes();
        ids();
        CHECKS.finish("TapeTest");
    }

    private static SnowNode fresh() {
        return new SnowNode(1, 2, 2, 1, 1);
    }

    private static void lengthOfTheTape() {
        SnowNode node = fresh();
        for (int i = 0; i < 32; i++) {
            CHECKS.same("count(9)", 4 * i, node.count(9));
            CHECKS.same("feed no. " + i, true, node.feed(-1));
        }
        CHECKS.same("feed behind 128 bytes", false, node.feed(0));
        CHECKS.same("count(9) of a full tape", 128, node.count(9));
        CHECKS.due("take(128) of ones", ARGUMENT, () -> node.take(128));
        CHECKS.same("count(9) behind it", 0, node.count(9));
        CHECKS.same("feed again", true, node.feed(7));
    }

    private static void wrongLengths() {
        byte[] right = Row.under(0).spends(0, 0).pays(1000000).bytes();
        for (int n : new int[] {0, -1, 15, 17, 20, Integer.MAX_VALUE, Integer.MIN_VALUE}) {
            SnowNode node = fresh();
            Row.feed(node, right);
            CHECKS.due("take(" + n + ") of 16", ARGUMENT, () -> node.take(n));
            CHECKS.same("count(9) behind take(" + n + ")", 0, node.count(9));
            CHECKS.same("count(0) behind take(" + n + ")", 1, node.count(0));
            CHECKS.due("take(16) of nothing", ARGUMENT, () -> node.take(16));
        }
    }

    private static void wrongRow(String name, byte[] bytes) {
        SnowNode node = fresh();
        Row.feed(node, bytes);
        CHECKS.due("take of " + name, ARGUMENT, () -> node.take(bytes.length));
        CHECKS.same("known behind " + name, 1, node.count(0));
        CHECKS.same("tape behind " + name, 0, node.count(9));
    }

    private static void wrongRows() {
        wrongRow("no parents", Row.under().spends(0, 0).pays(1).bytes());
        wrongRow("five parents", Row.under(0, 1, 2, 3, 4).spends(0, 0).pays(1).bytes());
        wrongRow("no inputs", Row.under(0).spends().pays(1).bytes());
        wrongRow("five inputs", Row.under(0).spends(0, 0, 0, 1, 0, 2, 0, 3, 0, 4).pays(1).bytes());
        wrongRow("no outputs", Row.under(0).spends(0, 0).pays().bytes());
        wrongRow("five outputs", Row.under(0).spends(0, 0).pays(1, 1, 1, 1, 1).bytes());
        wrongRow("a parent with a first bit", Row.under(0, -2147483648).spends(0, 0).pays(1).bytes());
        wrongRow("an input with a first bit", Row.under(0).spends(0, 0, -1, 0).pays(1).bytes());
        wrongRow("an amount of 0", Row.under(0).spends(0, 0).pays(1, 0).bytes());
        wrongRow("too high an amount", Row.under(0).spends(0, 0).pays(1000000001).bytes());
        wrongRow("an amount below 0", Row.under(0).spends(0, 0).pays(-5).bytes());
        byte[] most = Row.under(1, 2, 3, 4).spends(0, 0, 0, 1, 0, 2, 0, 3).pays(1, 2, 3, 4).bytes();
        for (int n = 1; n < most.length; n++) {
            wrongRow("the first " + n + " bytes of 55", Arrays.copyOf(most, n));
        }
        for (int n = 56; n <= 128; n++) {
            wrongRow(n + " bytes, 55 of them right", Arrays.copyOf(most, n));
        }
    }

    private static void edgesOfARow() {
        SnowNode node = fresh();
        Row most = Row.under(2147483647, 1, 2, 3).spends(2147483647, 255, 0, 1, 0, 2, 0, 3)
                .pays(1000000000, 1, 1, 1);
        CHECKS.due("take of the longest", most.id(), () -> most.take(node));
        CHECKS.same("its bytes", 55, node.look(most.id(), 9));
        CHECKS.same("its parents", 4, node.look(most.id(), 6));
        CHECKS.same("its inputs", 4, node.look(most.id(), 7));
        CHECKS.same("its outputs", 4, node.look(most.id(), 8));
        Row least = Row.under(0).spends(0, 0).pays(1000000);
        CHECKS.due("take of the shortest", least.id(), () -> least.take(node));
        CHECKS.same("bytes of the shortest", 16, node.look(least.id(), 9));
        CHECKS.same("count(9) behind a right one", 0, node.count(9));
    }

    private static void firstBytesOnly() {
        SnowNode node = fresh();
        Row row = Row.under(0).spends(0, 0).pays(1000000);
        Row.feed(node, row.bytes());
        node.feed(99);
        CHECKS.due("take(16) of 20", row.id(), () -> node.take(16));
        CHECKS.same("count(9) behind it", 0, node.count(9));
    }

    private static void knownOnes() {
        SnowNode node = fresh();
        Row held = Row.under(0).spends(0, 0).pays(1000000);
        Row waiting = Row.under(77).spends(0, 1).pays(1000000);
        Row bad = Row.under(0).spends(0, 0).pays(1000001);
        for (Row row : new Row[] {held, waiting, bad}) {
            CHECKS.due("take of a new one", row.id(), () -> row.take(node));
            CHECKS.due("take of a known one", STATE, () -> row.take(node));
            CHECKS.same("count(9) behind a known one", 0, node.count(9));
        }
        CHECKS.same("known", 4, node.count(0));
        byte[] longer = Arrays.copyOf(held.bytes(), 17);
        Row.feed(node, longer);
        CHECKS.due("take of a known one with a byte behind", ARGUMENT, () -> node.take(17));
    }

    private static void bytes() {
        SnowNode node = fresh();
        Row held = Row.under(0).spends(0, 0).pays(999901, 99);
        Row waiting = Row.under(0x7f80ff01).spends(0x01ff8002, 255).pays(1);
        for (Row row : new Row[] {held, waiting}) {
            int id = row.take(node);
            byte[] bytes = row.bytes();
            for (int k = 0; k < bytes.length; k++) {
                CHECKS.same("byteOf(" + id + ", " + k + ")", bytes[k] & 255, node.byteOf(id, k));
            }
            for (int k : new int[] {-1, bytes.length, Integer.MAX_VALUE, Integer.MIN_VALUE}) {
                CHECKS.same("byteOf(" + id + ", " + k + ")", -1, node.byteOf(id, k));
            }
        }
        Row bad = Row.under(0).spends(0, 9).pays(7);
        int id = bad.take(node);
        CHECKS.same("the last byte of a bad one", 7, node.byteOf(id, 15));
        CHECKS.same("byteOf of an unknown one", -1, node.byteOf(12345, 0));
        CHECKS.same("byteOf of a negative ID", -1, node.byteOf(-1, 0));
        CHECKS.same("byteOf of the genesis", -1, node.byteOf(0, 0));
    }

    /** Every length that a row can have, against the library's SHA-256. */
    private static void ids() {
        for (int p = 1; p <= 4; p++) {
            for (int i = 1; i <= 4; i++) {
                for (int o = 1; o <= 4; o++) {
                    int[] parents = {1 + p, 2147483647, 0x12345678, 3};
                    int[] inputs = {p, 1, i, 200, o, 3, 9, 4};
                    int[] outputs = {p * i * o, 1000000000, 255, 65536};
                    Row row = Row.under(Arrays.copyOf(parents, p)).spends(Arrays.copyOf(inputs, 2 * i))
                            .pays(Arrays.copyOf(outputs, o));
                    SnowNode node = fresh();
                    CHECKS.due("the ID of " + p + " " + i + " " + o, row.id(), () -> row.take(node));
                }
            }
        }
    }
}
