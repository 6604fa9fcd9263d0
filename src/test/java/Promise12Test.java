/** Promise 12, case by case: the first and last byte, and where there is none. */
public final class Promise12Test {
    public static void main(String[] args) {
        Cases.run(Promise12Test.class);
    }

    private static void bytesDue(Checks checks, SnowNode node, String name, Row row) {
        byte[] bytes = row.bytes();
        int last = bytes.length - 1;
        int[] places = {-1, 0, 1, last - 1, last, last + 1};
        int[] want = {Nodes.NONE, bytes[0] & 255, bytes[1] & 255, bytes[last - 1] & 255, bytes[last] & 255, Nodes.NONE};
        for (int i = 0; i < places.length; i++) {
            checks.same("byte " + places[i] + " of " + name, want[i], node.byteOf(row.id(), places[i]));
        }
    }

    static void p12_kBelow0(Checks checks) {
        SnowNode node = Nodes.quick(1, 1);
        Row row = Nodes.spend(0, 1000000);
        row.take(node);
        for (int k : new int[] {-1, -2, -16, Nodes.MIN}) {
            checks.same("byteOf(.., " + k + ")", Nodes.NONE, node.byteOf(row.id(), k));
        }
    }

    static void p12_firstAndLastByteOfTheShortest(Checks checks) {
        SnowNode node = Nodes.quick(1, 1);
        Row row = Nodes.spend(0, 1000000);
        row.take(node);
        bytesDue(checks, node, "the shortest", row);
    }

    static void p12_firstAndLastByteOfTheLongest(Checks checks) {
        SnowNode node = Nodes.quick(1, 1);
        Row row = Row.under(1, 2, 3, 4).spends(0, 0, 0, 1, 0, 2, 0, 3).pays(1, 2, 3, 255);
        row.take(node);
        bytesDue(checks, node, "the longest", row);
        for (int k = 0; k < 55; k++) {
            checks.same("byte " + k, row.bytes()[k] & 255, node.byteOf(row.id(), k));
        }
    }

    static void p12_kBehindTheLast(Checks checks) {
        SnowNode node = Nodes.quick(1, 1);
        Row row = Nodes.spend(0, 1000000);
        Row.feed(node, row.bytes());
        node.feed(-1);
        node.take(16);
        for (int k : new int[] {16, 17, 19, 20, 127, 128, Nodes.MAX}) {
            checks.same("byteOf(.., " + k + ")", Nodes.NONE, node.byteOf(row.id(), k));
        }
    }

    static void p12_everyStateIsKnown(Checks checks) {
        SnowNode node = Nodes.quick(1, 1);
        Row accepted = Nodes.spend(0, 1000000);
        Row rejected = Nodes.spend(0, 999999, 1);
        Row held = Nodes.spend(1, 1000000);
        Row waiting = Nodes.beside(2, 77);
        Row bad = Nodes.spend(2, 1);
        Nodes.win(node, accepted);
        Nodes.takeAll(node, rejected, held, waiting, bad);
        bytesDue(checks, node, "an accepted one", accepted);
        bytesDue(checks, node, "a rejected one", rejected);
        bytesDue(checks, node, "a held one", held);
        bytesDue(checks, node, "a waiting one", waiting);
        bytesDue(checks, node, "a bad one", bad);
    }

    static void p12_unknown(Checks checks) {
        SnowNode node = Nodes.quick(1, 1);
        Nodes.beside(2, 77).take(node);
        for (int id : new int[] {77, 1, -1, Nodes.MIN, Nodes.MAX}) {
            checks.same("byteOf(" + id + ", 0)", Nodes.NONE, node.byteOf(id, 0));
        }
    }

    static void p12_genesisHasNoBytes(Checks checks) {
        SnowNode node = Nodes.quick(1, 1);
        for (int k : new int[] {-1, 0, 1, Nodes.MAX}) {
            checks.same("byteOf(0, " + k + ")", Nodes.NONE, node.byteOf(0, k));
        }
    }

    static void p12_bytesFrom0To255(Checks checks) {
        SnowNode node = Nodes.quick(1, 1);
        Row row = Row.under(0x007f80ff).spends(0x7fff8000, 255).pays(0x0180ff7f);
        row.take(node);
        int[] want = {1, 0x00, 0x7f, 0x80, 0xff, 1, 0x7f, 0xff, 0x80, 0x00, 255, 1, 0x01, 0x80, 0xff, 0x7f};
        for (int k = 0; k < want.length; k++) {
            checks.same("byte " + k, want[k], node.byteOf(row.id(), k));
        }
    }

    /** Bytes that come to the tape later are not the transaction's. */
    static void p12_bytesStayWhenTheTapeIsUsedAgain(Checks checks) {
        SnowNode node = Nodes.quick(1, 1);
        Row row = Nodes.spend(0, 1000000);
        row.take(node);
        for (int i = 0; i < 32; i++) {
            node.feed(-1);
        }
        bytesDue(checks, node, "it", row);
    }
}
