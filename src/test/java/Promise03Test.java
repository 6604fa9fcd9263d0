import java.util.Arrays;

/** Promise 3, case by case: the tape's last free bytes, and what a refused feed leaves on it. */
public final class Promise03Test {
    public static void main(String[] args) {
        Cases.run(Promise03Test.class);
    }

    private static final Row ROW = Nodes.spend(0, 1000000);

    private static SnowNode fedWith(int words) {
        SnowNode node = Nodes.quick(1, 1);
        for (int i = 0; i < words; i++) {
            node.feed(i);
        }
        return node;
    }

    static void p03_emptyTapeTakesFourBytes(Checks checks) {
        SnowNode node = Nodes.quick(1, 1);
        checks.same("count(9) at first", 0, node.count(9));
        checks.same("feed(0)", true, node.feed(0));
        checks.same("count(9)", 4, node.count(9));
    }

    static void p03_tapeOf120TakesFourMore(Checks checks) {
        SnowNode node = fedWith(30);
        checks.same("count(9)", 120, node.count(9));
        checks.same("feed to 124", true, node.feed(1));
        checks.same("count(9) behind it", 124, node.count(9));
    }

    static void p03_tapeOf124TakesFourMore(Checks checks) {
        SnowNode node = fedWith(31);
        checks.same("count(9)", 124, node.count(9));
        checks.same("feed to 128", true, node.feed(1));
        checks.same("count(9) behind it", 128, node.count(9));
    }

    static void p03_tapeOf128IsFull(Checks checks) {
        SnowNode node = fedWith(32);
        for (int i = 0; i < 3; i++) {
            checks.same("feed behind 128", false, node.feed(i));
            checks.same("count(9) behind it", 128, node.count(9));
        }
    }

    static void p03_refusedFeedLeavesTheBytes(Checks checks) {
        SnowNode node = Nodes.quick(1, 1);
        Row.feed(node, ROW.bytes());
        for (int i = 4; i < 32; i++) {
            checks.same("feed no. " + i, true, node.feed(-1));
        }
        checks.same("feed behind 128", false, node.feed(0x55555555));
        checks.same("feed behind 128 again", false, node.feed(-1));
        checks.due("take(16)", ROW.id(), () -> node.take(16));
    }

    static void p03_refusedFeedIsNotKeptForLater(Checks checks) {
        SnowNode node = fedWith(32);
        node.feed(Row.words(ROW.bytes())[0]);
        checks.due("take(128)", Nodes.ARGUMENT, () -> node.take(128));
        checks.same("count(9)", 0, node.count(9));
        Row.feed(node, ROW.bytes());
        checks.due("take(16)", ROW.id(), () -> node.take(16));
    }

    static void p03_tapeIsFilledAgainBehindATake(Checks checks) {
        SnowNode node = fedWith(32);
        checks.due("take(1)", Nodes.ARGUMENT, () -> node.take(1));
        for (int i = 0; i < 32; i++) {
            checks.same("feed no. " + i, true, node.feed(i));
        }
        checks.same("feed no. 32", false, node.feed(32));
        checks.same("count(9)", 128, node.count(9));
    }

    static void p03_highestByteComesFirst(Checks checks) {
        SnowNode node = Nodes.quick(1, 1);
        Row row = Row.under(0x01020304).spends(0x05060708, 9).pays(0x0a0b0c0d);
        int[] words = {0x01010203, 0x04010506, 0x07080901, 0x0a0b0c0d};
        for (int word : words) {
            node.feed(word);
        }
        checks.due("take(16)", row.id(), () -> node.take(16));
        int[] want = {1, 1, 2, 3, 4, 1, 5, 6, 7, 8, 9, 1, 10, 11, 12, 13};
        for (int k = 0; k < 16; k++) {
            checks.same("byteOf(" + k + ")", want[k], node.byteOf(row.id(), k));
        }
    }

    static void p03_bytesAbove127(Checks checks) {
        SnowNode node = Nodes.quick(1, 1);
        Row row = Row.under(0x7f80ff81).spends(0x00ff80fe, 255).pays(0x0080ff80);
        byte[] bytes = row.bytes();
        Row.feed(node, bytes);
        checks.due("take(16)", row.id(), () -> node.take(16));
        for (int k = 0; k < 16; k++) {
            checks.same("byteOf(" + k + ")", bytes[k] & 255, node.byteOf(row.id(), k));
        }
    }

    static void p03_wordsAtTheEndsOfAnInt(Checks checks) {
        SnowNode node = Nodes.quick(1, 1);
        for (int word : new int[] {Nodes.MIN, -1, 0, Nodes.MAX}) {
            checks.same("feed(" + word + ")", true, node.feed(word));
        }
        checks.same("count(9)", 16, node.count(9));
    }

    /** The last word of a row that ends within it: what stands behind is not the row's. */
    static void p03_rowThatEndsWithinAWord(Checks checks) {
        Row[] rows = {
            Row.under(1).spends(1, 0, 1, 1).pays(7),
            Row.under(1).spends(1, 0, 1, 1, 1, 2).pays(7),
            Row.under(1).spends(1, 0, 1, 1, 1, 2, 1, 3).pays(7),
        };
        for (int more = 1; more <= 3; more++) {
            SnowNode node = Nodes.quick(1, 1);
            Row row = rows[more - 1];
            byte[] bytes = row.bytes();
            checks.same("its length over 4", more, bytes.length % 4);
            byte[] longer = Arrays.copyOf(bytes, bytes.length + 4 - more);
            Arrays.fill(longer, bytes.length, longer.length, (byte) 0xee);
            Row.feed(node, longer);
            checks.same("count(9)", longer.length, node.count(9));
            checks.due("take(" + bytes.length + ")", row.id(), () -> node.take(bytes.length));
        }
    }
}
