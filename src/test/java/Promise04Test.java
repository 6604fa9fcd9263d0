import java.util.Arrays;

/**
 * Promise 4, case by case: how many bytes are taken, what is no transaction, which exception comes
 * first, and what is left. What becomes of a transaction that is taken stands in Promise04LookTest.
 */
public final class Promise04Test {
    public static void main(String[] args) {
        Cases.run(Promise04Test.class);
    }

    private static final Row ROW = Nodes.spend(0, 1000000);

    private static SnowNode fed(byte[] bytes) {
        SnowNode node = Nodes.quick(1, 1);
        Row.feed(node, bytes);
        return node;
    }

    /** It is refused, the tape is empty, nothing is known by it, and a right one can be taken next. */
    private static void refused(Checks checks, String name, byte[] bytes, int n) {
        SnowNode node = fed(bytes);
        checks.due("take(" + n + ") of " + name, Nodes.ARGUMENT, () -> node.take(n));
        checks.same("count(9) behind " + name, 0, node.count(9));
        checks.same("count(0) behind " + name, 1, node.count(0));
        checks.due("a right one behind " + name, ROW.id(), () -> ROW.take(node));
    }

    private static void refused(Checks checks, String name, Row row) {
        byte[] bytes = row.bytes();
        refused(checks, name, bytes, bytes.length);
    }

    private static void taken(Checks checks, String name, Row row) {
        byte[] bytes = row.bytes();
        SnowNode node = fed(bytes);
        checks.due("take of " + name, row.id(), () -> node.take(bytes.length));
        checks.same("count(9) behind " + name, 0, node.count(9));
        checks.same("count(0) behind " + name, 2, node.count(0));
        checks.same("bytes of " + name, bytes.length, node.look(row.id(), 9));
    }

    /** A right row with one byte changed. */
    private static byte[] with(Row row, int at, int value) {
        byte[] bytes = row.bytes();
        bytes[at] = (byte) value;
        return bytes;
    }

    // n

    static void p04_nOf0(Checks checks) {
        refused(checks, "a right one", ROW.bytes(), 0);
    }

    static void p04_nBelow0(Checks checks) {
        for (int n : new int[] {-1, -16, Nodes.MIN}) {
            refused(checks, "a right one", ROW.bytes(), n);
        }
    }

    static void p04_nOf1(Checks checks) {
        refused(checks, "a right one", ROW.bytes(), 1);
    }

    static void p04_nOfAllBytes(Checks checks) {
        SnowNode node = fed(ROW.bytes());
        checks.same("count(9)", 16, node.count(9));
        checks.due("take(16)", ROW.id(), () -> node.take(16));
    }

    static void p04_nOneMoreThanTheBytes(Checks checks) {
        refused(checks, "a right one", ROW.bytes(), 17);
    }

    /** What lay on the tape before it was emptied does not count. */
    static void p04_nOfMoreBytesThanTheTapeHasNow(Checks checks) {
        SnowNode node = fed(ROW.bytes());
        checks.due("take(0)", Nodes.ARGUMENT, () -> node.take(0));
        node.feed(Row.words(ROW.bytes())[0]);
        checks.due("take(16) of 4", Nodes.ARGUMENT, () -> node.take(16));
        checks.same("count(0)", 1, node.count(0));
    }

    static void p04_nFarAboveTheBytes(Checks checks) {
        for (int n : new int[] {128, 129, Nodes.MAX}) {
            refused(checks, "a right one", ROW.bytes(), n);
        }
    }

    static void p04_emptyTape(Checks checks) {
        for (int n : new int[] {-1, 0, 1, 16, Nodes.MAX}) {
            SnowNode node = Nodes.quick(1, 1);
            checks.due("take(" + n + ")", Nodes.ARGUMENT, () -> node.take(n));
            checks.same("count(0)", 1, node.count(0));
        }
    }

    static void p04_fullTape(Checks checks) {
        byte[] full = Arrays.copyOf(ROW.bytes(), 128);
        refused(checks, "a full tape", full, 128);
        refused(checks, "a full tape", full, 129);
        refused(checks, "a full tape", full, 127);
        SnowNode node = fed(full);
        checks.due("take(16) of a full tape", ROW.id(), () -> node.take(16));
        checks.same("count(9)", 0, node.count(9));
    }

    static void p04_onlyTheFirstBytesAreTaken(Checks checks) {
        SnowNode node = fed(ROW.bytes());
        Row.feed(node, Nodes.spend(1, 1000000).bytes());
        checks.due("take(16) of 32", ROW.id(), () -> node.take(16));
        checks.same("count(9)", 0, node.count(9));
        checks.due("take(16) of nothing", Nodes.ARGUMENT, () -> node.take(16));
        checks.same("count(0)", 2, node.count(0));
    }

    // How long a row is

    static void p04_oneByteTooFew(Checks checks) {
        refused(checks, "a right one", ROW.bytes(), 15);
    }

    static void p04_oneByteBehind(Checks checks) {
        refused(checks, "a right one with a byte behind", Arrays.copyOf(ROW.bytes(), 20), 17);
    }

    static void p04_cutAnywhere(Checks checks) {
        byte[] longest = longest().bytes();
        for (int n = 1; n < longest.length; n++) {
            refused(checks, "the longest one", longest, n);
        }
    }

    static void p04_shortestRow(Checks checks) {
        checks.same("its length", 16, ROW.bytes().length);
        taken(checks, "the shortest one", ROW);
    }

    static void p04_longestRow(Checks checks) {
        checks.same("its length", 55, longest().bytes().length);
        taken(checks, "the longest one", longest());
        for (int n = 56; n <= 128; n += 8) {
            refused(checks, "the longest one and more", Arrays.copyOf(longest().bytes(), 128), n);
        }
    }

    private static Row longest() {
        return Row.under(1, 2, 3, 4).spends(0, 0, 0, 1, 0, 2, 0, 3).pays(1, 2, 3, 4);
    }

    // How many parents, inputs and outputs

    static void p04_noParents(Checks checks) {
        refused(checks, "no parents", Row.under().spends(0, 0).pays(1));
    }

    static void p04_oneToFourParents(Checks checks) {
        for (int many = 1; many <= 4; many++) {
            taken(checks, many + " parents",
                    Row.under(Arrays.copyOf(new int[] {1, 2, 3, 4}, many)).spends(0, 0).pays(1));
        }
    }

    static void p04_fiveParents(Checks checks) {
        refused(checks, "five parents", Row.under(1, 2, 3, 4, 5).spends(0, 0).pays(1));
    }

    static void p04_noInputs(Checks checks) {
        refused(checks, "no inputs", Row.under(0).spends().pays(1));
    }

    static void p04_oneToFourInputs(Checks checks) {
        for (int many = 1; many <= 4; many++) {
            int[] inputs = Arrays.copyOf(new int[] {0, 0, 0, 1, 0, 2, 0, 3}, 2 * many);
            taken(checks, many + " inputs", Row.under(0).spends(inputs).pays(1));
        }
    }

    static void p04_fiveInputs(Checks checks) {
        refused(checks, "five inputs", Row.under(0).spends(0, 0, 0, 1, 0, 2, 0, 3, 0, 4).pays(1));
    }

    static void p04_noOutputs(Checks checks) {
        refused(checks, "no outputs", Row.under(0).spends(0, 0).pays());
    }

    static void p04_oneToFourOutputs(Checks checks) {
        for (int many = 1; many <= 4; many++) {
            taken(checks, many + " outputs",
                    Row.under(0).spends(0, 0).pays(Arrays.copyOf(new int[] {1, 2, 3, 4}, many)));
        }
    }

    static void p04_fiveOutputs(Checks checks) {
        refused(checks, "five outputs", Row.under(0).spends(0, 0).pays(1, 2, 3, 4, 5));
    }

    /** A byte's first bit is no sign, and nothing but the whole byte is the number. */
    static void p04_numbersFarAboveFour(Checks checks) {
        for (int at : new int[] {0, 5, 11}) {
            for (int many : new int[] {6, 16, 17, 127, 128, 129, 132, 255}) {
                byte[] bytes = Arrays.copyOf(with(ROW, at, many), 128);
                refused(checks, "a number of " + many + " at " + at, bytes, 16);
                refused(checks, "a number of " + many + " at " + at, bytes, 128);
            }
        }
    }

    // IDs and the index

    static void p04_parentIdWithTheFirstBit(Checks checks) {
        for (int at = 0; at < 4; at++) {
            for (int id : new int[] {Nodes.MIN, -1}) {
                int[] parents = {1, 2, 3, 4};
                parents[at] = id;
                refused(checks, "parent " + at + " of " + id, Row.under(parents).spends(0, 0).pays(1));
            }
        }
    }

    static void p04_highestAndLowestParentId(Checks checks) {
        for (int at = 0; at < 4; at++) {
            int[] parents = {1, 2, 3, 4};
            parents[at] = Nodes.MAX;
            taken(checks, "the highest ID as parent " + at, Row.under(parents).spends(0, 0).pays(1));
            parents[at] = 0;
            taken(checks, "the lowest ID as parent " + at, Row.under(parents).spends(0, 0).pays(1));
        }
    }

    static void p04_inputIdWithTheFirstBit(Checks checks) {
        for (int at = 0; at < 4; at++) {
            for (int id : new int[] {Nodes.MIN, -1}) {
                int[] inputs = {1, 0, 2, 0, 3, 0, 4, 0};
                inputs[2 * at] = id;
                refused(checks, "input " + at + " of " + id, Row.under(0).spends(inputs).pays(1));
            }
        }
    }

    static void p04_highestAndLowestInputId(Checks checks) {
        for (int at = 0; at < 4; at++) {
            int[] inputs = {1, 0, 2, 0, 3, 0, 4, 0};
            inputs[2 * at] = Nodes.MAX;
            taken(checks, "the highest ID as input " + at, Row.under(0).spends(inputs).pays(1));
            inputs[2 * at] = 0;
            taken(checks, "the lowest ID as input " + at, Row.under(0).spends(inputs).pays(1));
        }
    }

    static void p04_anyIndexIsAnIndex(Checks checks) {
        for (int index : new int[] {0, 1, 127, 128, 255}) {
            taken(checks, "index " + index, Row.under(0).spends(0, index).pays(1));
        }
    }

    // Amounts

    static void p04_amountOf0(Checks checks) {
        for (int at = 0; at < 4; at++) {
            refused(checks, "amount 0 at " + at, pays(at, 0));
        }
    }

    static void p04_amountOf1(Checks checks) {
        for (int at = 0; at < 4; at++) {
            taken(checks, "amount 1 at " + at, pays(at, 1));
            taken(checks, "amount 2 at " + at, pays(at, 2));
        }
    }

    static void p04_amountOf1000000000(Checks checks) {
        for (int at = 0; at < 4; at++) {
            taken(checks, "amount 999999999 at " + at, pays(at, 999999999));
            taken(checks, "amount 1000000000 at " + at, pays(at, 1000000000));
        }
        taken(checks, "four of the highest",
                Row.under(0).spends(0, 0).pays(1000000000, 1000000000, 1000000000, 1000000000));
    }

    static void p04_amountAbove1000000000(Checks checks) {
        for (int at = 0; at < 4; at++) {
            for (int amount : new int[] {1000000001, 1000000002, Nodes.MAX}) {
                refused(checks, "amount " + amount + " at " + at, pays(at, amount));
            }
        }
    }

    /** Read without a sign, these are too high; with one, below 1. */
    static void p04_amountWithTheFirstBit(Checks checks) {
        for (int at = 0; at < 4; at++) {
            for (int amount : new int[] {Nodes.MIN, Nodes.MIN + 1, -1}) {
                refused(checks, "amount " + amount + " at " + at, pays(at, amount));
            }
        }
    }

    private static Row pays(int at, int amount) {
        int[] amounts = {5, 6, 7, 8};
        amounts[at] = amount;
        return Row.under(0).spends(0, 0).pays(amounts);
    }

    // The ID

    static void p04_idLeavesTheFirstBitOut(Checks checks) {
        int withBit = 0;
        int without = 0;
        for (int index = 0; index < 20; index++) {
            Row row = Row.under(0).spends(0, index).pays(1);
            if (Row.firstBit(row.bytes())) {
                withBit++;
            } else {
                without++;
            }
            taken(checks, "index " + index, row);
        }
        checks.same("both kinds were there", true, withBit > 0 && without > 0);
    }

    static void p04_idOfEveryLength(Checks checks) {
        for (int shape = 0; shape < 64; shape++) {
            int[] parents = Arrays.copyOf(new int[] {1, Nodes.MAX, 0x12345678, 3}, 1 + shape % 4);
            int[] inputs = Arrays.copyOf(new int[] {1, 1, 2, 200, 3, 3, 9, 4}, 2 + 2 * (shape / 4 % 4));
            int[] outputs = Arrays.copyOf(new int[] {shape + 1, 1000000000, 255, 65536}, 1 + shape / 16);
            taken(checks, "shape " + shape, Row.under(parents).spends(inputs).pays(outputs));
        }
    }

    // What is known, and which exception comes first

    static void p04_knownOneOfEveryState(Checks checks) {
        SnowNode node = Nodes.quick(1, 1);
        Row accepted = ROW;
        Row rejected = Nodes.spend(0, 999999, 1);
        Row held = Nodes.spend(1, 1000000);
        Row waiting = Nodes.beside(2, 77);
        Row bad = Nodes.spend(2, 1);
        Nodes.win(node, accepted);
        Nodes.takeAll(node, rejected, held, waiting, bad);
        Row[] rows = {accepted, rejected, held, waiting, bad};
        int[] states = {Nodes.ACCEPTED, Nodes.REJECTED, Nodes.HELD, Nodes.WAITING, Nodes.BAD};
        for (int i = 0; i < rows.length; i++) {
            Row row = rows[i];
            Nodes.state(checks, node, "no. " + i, states[i], row);
            checks.due("take of no. " + i + " again", Nodes.STATE, () -> row.take(node));
            checks.same("count(9) behind it", 0, node.count(9));
            Nodes.state(checks, node, "no. " + i + " behind it", states[i], row);
        }
        checks.same("count(0)", 6, node.count(0));
        checks.same("how many joined the set", 2, node.set(0, 0, 0));
    }

    static void p04_knownOneWithAByteBehindIsNoTransaction(Checks checks) {
        SnowNode node = fed(ROW.bytes());
        node.take(16);
        Row.feed(node, Arrays.copyOf(ROW.bytes(), 17));
        checks.due("take(17)", Nodes.ARGUMENT, () -> node.take(17));
        Row.feed(node, ROW.bytes());
        checks.due("take(17) of 16", Nodes.ARGUMENT, () -> node.take(17));
        Row.feed(node, ROW.bytes());
        checks.due("take(0)", Nodes.ARGUMENT, () -> node.take(0));
        Row.feed(node, ROW.bytes());
        checks.due("take(16)", Nodes.STATE, () -> node.take(16));
    }

    /**
     * So many cannot be brought in 512 calls (the shortest one takes five), so the document leaves
     * this free; the class keeps the limit all the same.
     */
    static void p04_knownOnes140(Checks checks) {
        SnowNode node = Nodes.quick(1, 1);
        for (int i = 1; i <= 137; i++) {
            manyOf(i).take(node);
        }
        checks.same("count(0)", 138, node.count(0));
        for (int i = 138; i <= 139; i++) {
            Row row = manyOf(i);
            checks.due("take of no. " + i, row.id(), () -> row.take(node));
        }
        checks.same("count(0) when full", 140, node.count(0));
        checks.due("take of one more", Nodes.STATE, () -> manyOf(140).take(node));
        checks.same("count(9) behind it", 0, node.count(9));
        checks.due("take of a known one", Nodes.STATE, () -> manyOf(7).take(node));
        Row.feed(node, ROW.bytes());
        checks.due("take of none", Nodes.ARGUMENT, () -> node.take(15));
        checks.same("count(9) behind it", 0, node.count(9));
        checks.same("count(0) at last", 140, node.count(0));
        checks.same("one more is not known", Nodes.UNKNOWN, node.look(manyOf(140).id(), 0));
    }

    private static Row manyOf(int i) {
        return Row.under(1000 + i).spends(0, 0).pays(i);
    }

    // The tape is empty then, whatever came of it

    static void p04_tapeIsEmptyBehindARightOne(Checks checks) {
        SnowNode node = fed(Arrays.copyOf(ROW.bytes(), 40));
        node.take(16);
        checks.same("count(9)", 0, node.count(9));
    }

    static void p04_tapeIsEmptyBehindAWrongN(Checks checks) {
        for (int n : new int[] {Nodes.MIN, -1, 0, 41, Nodes.MAX}) {
            SnowNode node = fed(Arrays.copyOf(ROW.bytes(), 40));
            checks.due("take(" + n + ")", Nodes.ARGUMENT, () -> node.take(n));
            checks.same("count(9)", 0, node.count(9));
        }
    }

    static void p04_tapeIsEmptyBehindNoTransaction(Checks checks) {
        SnowNode node = fed(Arrays.copyOf(ROW.bytes(), 40));
        checks.due("take(15)", Nodes.ARGUMENT, () -> node.take(15));
        checks.same("count(9)", 0, node.count(9));
    }

    static void p04_tapeIsEmptyBehindAKnownOne(Checks checks) {
        SnowNode node = fed(ROW.bytes());
        node.take(16);
        Row.feed(node, Arrays.copyOf(ROW.bytes(), 40));
        checks.due("take(16)", Nodes.STATE, () -> node.take(16));
        checks.same("count(9)", 0, node.count(9));
    }

    /** Only the tape is changed by a take that throws. */
    static void p04_refusedChangesNothingButTheTape(Checks checks) {
        for (int kind = 0; kind < 3; kind++) {
            int of = kind;
            Scene.refusedChangesNothing(checks, node -> {
                if (of == 0) {
                    checks.due("take(0)", Nodes.ARGUMENT, () -> node.take(0));
                } else if (of == 1) {
                    checks.due("take(8)", Nodes.ARGUMENT, () -> node.take(8));
                } else {
                    checks.due("take(0)", Nodes.ARGUMENT, () -> node.take(0));
                    checks.due("take of a known one", Nodes.STATE, () -> Scene.WON.take(node));
                    checks.due("take of a waiting one", Nodes.STATE, () -> Scene.LATE.take(node));
                    checks.due("take of a bad one", Nodes.STATE, () -> Scene.UNSOUND.take(node));
                }
                checks.same("count(9)", 0, node.count(9));
                node.feed(Row.words(Scene.NEXT.bytes())[0]);
                node.feed(Row.words(Scene.NEXT.bytes())[1]);
            });
        }
    }
}
