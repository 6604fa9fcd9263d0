/** Promises 4, 5, 10, 11 and 13: which transactions are held, bad or waiting, and what is told of them. */
public final class GraphTest {
    private static final Checks CHECKS = new Checks();
    private static final Class<?> INDEX = IndexOutOfBoundsException.class;
    private static final int WAITING = 1;
    private static final int HELD = 2;
    private static final int BAD = 5;

    public static void main(String[] args) {
        badOnes();
        conflictingAncestors();
        waitingOnes();
        orderOfHolding();
        badParents();
        looks();
        sets();
        strongOnes();
        newParents();
        missingParents();
        CHECKS.finish("GraphTest");
    }

    private static SnowNode fresh() {
        return new SnowNode(3, 1, 1, 2, 3);
    }

    private static Row spendOf(int output, int... amounts) {
        return Row.under(0).spends(0, output).pays(amounts);
    }

    private static void taken(SnowNode node, String name, int state, Row row) {
        CHECKS.due("take of " + name, row.id(), () -> row.take(node));
        CHECKS.same("the state of " + name, state, node.look(row.id(), 0));
    }

    private static void badOnes() {
        SnowNode node = fresh();
        Row a = spendOf(0, 600000, 400000);
        taken(node, "a right one", HELD, a);
        taken(node, "two parents the same", BAD, Row.under(0, 0).spends(0, 1).pays(1000000));
        taken(node, "two parents the same, not side by side", BAD,
                Row.under(0, a.id(), 0).spends(0, 1).pays(1000000));
        taken(node, "two inputs the same", BAD, Row.under(0).spends(0, 1, 0, 1).pays(2000000));
        taken(node, "two inputs the same, not side by side", BAD,
                Row.under(0).spends(0, 1, 0, 2, 0, 1).pays(3000000));
        taken(node, "an index behind the outputs", BAD, Row.under(0).spends(0, 8).pays(1000000));
        taken(node, "the highest index", BAD, Row.under(0).spends(0, 255).pays(1000000));
        taken(node, "the last output", HELD, Row.under(0).spends(0, 7).pays(1000000));
        taken(node, "an input of an unknown one", BAD, Row.under(0).spends(99, 0).pays(1000000));
        taken(node, "an input of no ancestor", BAD, Row.under(0).spends(a.id(), 0).pays(600000));
        taken(node, "an input that an ancestor has", BAD, Row.under(a.id()).spends(0, 0).pays(1000000));
        taken(node, "too much", BAD, spendOf(1, 1000000, 1));
        taken(node, "too little", BAD, spendOf(1, 999999));
        taken(node, "more than an int holds", BAD, spendOf(1, 1000000000, 1000000000, 1000000000, 1000000000));
        taken(node, "an output of a parent", HELD, Row.under(a.id()).spends(a.id(), 1).pays(400000));
        taken(node, "a grandparent's output", HELD, Row.under(a.id()).spends(0, 3).pays(1000000));
        taken(node, "inputs of several", HELD,
                Row.under(a.id(), 0).spends(a.id(), 0, 0, 4, 0, 5).pays(2500000, 99999, 1));
        CHECKS.same("bad ones", 12, node.count(5));
        CHECKS.same("held ones", 6, node.count(2));
    }

    /** Nothing says that two ancestors may not spend the same. */
    private static void conflictingAncestors() {
        SnowNode node = fresh();
        Row one = spendOf(0, 1000000);
        Row two = spendOf(0, 500000, 500000);
        taken(node, "one", HELD, one);
        taken(node, "two", HELD, two);
        Row both = Row.under(one.id(), two.id()).spends(one.id(), 0, two.id(), 1).pays(1500000);
        taken(node, "a child of both", HELD, both);
        CHECKS.same("its ancestors", 3, node.look(both.id(), 4));
        CHECKS.same("it is liked", 1, node.look(both.id(), 3));
        CHECKS.same("it is not strong", 0, node.query(both.id()));
        taken(node, "one that spends what an ancestor has", BAD,
                Row.under(both.id()).spends(two.id(), 1).pays(500000));
        taken(node, "one that spends what no ancestor has", HELD,
                Row.under(both.id()).spends(two.id(), 0).pays(500000));
    }

    private static void waitingOnes() {
        SnowNode node = fresh();
        Row a = spendOf(0, 1000000);
        Row b = Row.under(a.id()).spends(a.id(), 0).pays(1000000);
        Row c = Row.under(0, b.id()).spends(b.id(), 0).pays(1000000);
        Row twins = Row.under(b.id(), b.id()).spends(b.id(), 0).pays(1000000);
        taken(node, "a child of a waiting one", WAITING, c);
        taken(node, "the same parents, as long as one is not known", WAITING, twins);
        taken(node, "a child of an unknown one", WAITING, b);
        CHECKS.same("waiting", 3, node.count(1));
        CHECKS.same("query of a waiting one", -1, node.query(c.id()));
        taken(node, "the first one", HELD, a);
        CHECKS.same("b", HELD, node.look(b.id(), 0));
        CHECKS.same("c", HELD, node.look(c.id(), 0));
        CHECKS.same("twins", BAD, node.look(twins.id(), 0));
        CHECKS.same("waiting", 0, node.count(1));
    }

    /** Polls tell the order in which they were held. */
    private static void orderOfHolding() {
        SnowNode node = fresh();
        Row x = spendOf(0, 1000000);
        Row second = Row.under(x.id()).spends(0, 1).pays(1000000);
        Row first = Row.under(second.id()).spends(0, 2).pays(1000000);
        Row third = Row.under(x.id()).spends(0, 3).pays(1000000);
        first.take(node);
        second.take(node);
        third.take(node);
        x.take(node);
        Row[] order = {x, second, first, third};
        for (int i = 0; i < order.length; i++) {
            node.poll();
            CHECKS.same("held as number " + i, order[i].id(), node.sampled(i, -1));
        }
    }

    private static void badParents() {
        SnowNode node = fresh();
        Row bad = spendOf(0, 5);
        Row child = Row.under(bad.id()).spends(0, 1).pays(1000000);
        Row grandchild = Row.under(child.id(), 0).spends(0, 2).pays(1000000);
        taken(node, "the grandchild", WAITING, grandchild);
        taken(node, "the child", WAITING, child);
        taken(node, "one that is bad", BAD, bad);
        CHECKS.same("the child", BAD, node.look(child.id(), 0));
        CHECKS.same("the grandchild", BAD, node.look(grandchild.id(), 0));
        taken(node, "a child of a bad one and an unknown one", BAD,
                Row.under(4711, bad.id()).spends(0, 3).pays(1000000));
        taken(node, "a child of an unknown one and a bad one", BAD,
                Row.under(bad.id(), 4711).spends(0, 3).pays(1000000));
        CHECKS.same("query of a bad one", -1, node.query(bad.id()));
    }

    private static void lookedAt(SnowNode node, String name, int id, int... want) {
        for (int what = 0; what < want.length; what++) {
            CHECKS.same("look " + what + " of " + name, want[what], node.look(id, what));
        }
    }

    private static void looks() {
        SnowNode node = fresh();
        Row a = spendOf(0, 600000, 400000);
        Row b = Row.under(0, a.id()).spends(a.id(), 0, 0, 1).pays(1600000);
        Row rival = Row.under(a.id()).spends(a.id(), 0).pays(600000);
        Row bad = Row.under(b.id(), 0).spends(0, 0, 0, 2, 0, 3).pays(1, 2, 3, 4);
        Row waiting = Row.under(7, 8, 9).spends(7, 0).pays(5, 6);
        for (Row row : new Row[] {a, b, rival, bad, waiting}) {
            row.take(node);
        }
        lookedAt(node, "a", a.id(), 2, 0, 0, 1, 1, 2, 1, 1, 2, 20);
        lookedAt(node, "b", b.id(), 2, 0, 0, 1, 2, 0, 2, 2, 1, 25);
        lookedAt(node, "the rival", rival.id(), 2, 0, 0, 0, 2, 0, 1, 1, 1, 16);
        lookedAt(node, "the bad one", bad.id(), 5, 0, 0, 0, 0, 0, 2, 3, 4, 42);
        lookedAt(node, "the waiting one", waiting.id(), 1, 0, 0, 0, 0, 0, 3, 1, 2, 28);
        lookedAt(node, "the genesis", 0, 3, 0, 0, 1, 0, 3, 0, 0, 8, 0);
        lookedAt(node, "an unknown one", 7, 0, 0, 0, 0, 0, 0, 0, 0, 0, 0);
        lookedAt(node, "a negative ID", -1, 0, 0, 0, 0, 0, 0, 0, 0, 0, 0);
        node.poll();
        node.poll();
        node.answer(1, node.sampled(1, 0), true);
        lookedAt(node, "a behind b's chit", a.id(), 2, 1, 0, 1);
        lookedAt(node, "b behind its chit", b.id(), 2, 1, 1, 1);
        lookedAt(node, "the genesis behind b's chit", 0, 3, 1, 0, 1);
        node.answer(0, node.sampled(0, 0), true);
        lookedAt(node, "a behind its chit", a.id(), 3, 2, 1, 1);
        lookedAt(node, "b behind a's chit", b.id(), 2, 1, 1, 1);
        for (int what : new int[] {-1, 10, Integer.MAX_VALUE, Integer.MIN_VALUE}) {
            CHECKS.due("look(a, " + what + ")", INDEX, () -> node.look(a.id(), what));
            CHECKS.due("look(unknown, " + what + ")", INDEX, () -> node.look(7, what));
        }
    }

    private static void sets() {
        SnowNode node = fresh();
        Row a = spendOf(0, 600000, 400000);
        Row rival = spendOf(0, 1000000);
        Row waiting = Row.under(7).spends(7, 0).pays(5, 6);
        Row bad = Row.under(0).spends(0, 0).pays(5, 6);
        for (Row row : new Row[] {a, rival, waiting, bad}) {
            row.take(node);
        }
        int[] want = {2, a.id(), a.id(), 0, -1};
        int[] empty = {0, -1, -1, 0, -1};
        for (int what = 0; what < 5; what++) {
            CHECKS.same("set(0, 0, " + what + ")", want[what], node.set(0, 0, what));
            CHECKS.same("set(0, 7, " + what + ")", empty[what], node.set(0, 7, what));
            CHECKS.same("set(a, 1, " + what + ")", empty[what], node.set(a.id(), 1, what));
        }
        for (int what : new int[] {-1, 5, Integer.MAX_VALUE, Integer.MIN_VALUE}) {
            CHECKS.due("set(0, 0, " + what + ")", INDEX, () -> node.set(0, 0, what));
        }
        for (int index : new int[] {-1, 8, Integer.MAX_VALUE, Integer.MIN_VALUE}) {
            CHECKS.due("set(0, " + index + ", 0)", INDEX, () -> node.set(0, index, 0));
        }
        CHECKS.due("set(a, 2, 0)", INDEX, () -> node.set(a.id(), 2, 0));
        CHECKS.due("set of a waiting one", INDEX, () -> node.set(waiting.id(), 0, 0));
        CHECKS.due("set of a bad one", INDEX, () -> node.set(bad.id(), 0, 0));
        CHECKS.due("set of an unknown one", INDEX, () -> node.set(7, 0, 0));
        CHECKS.due("set of a negative ID", INDEX, () -> node.set(-1, 0, 0));
    }

    private static void strongOnes() {
        SnowNode node = fresh();
        Row a = spendOf(0, 1000000);
        Row rival = spendOf(0, 999999, 1);
        Row child = Row.under(a.id()).spends(a.id(), 0).pays(1000000);
        Row weak = Row.under(rival.id()).spends(rival.id(), 1).pays(1);
        Row half = Row.under(0).spends(0, 0, 0, 1).pays(2000000);
        for (Row row : new Row[] {a, rival, child, weak, half}) {
            row.take(node);
        }
        int[] ids = {a.id(), rival.id(), child.id(), weak.id(), half.id(), 0, 4711, -1};
        int[] strong = {1, 0, 1, 0, 0, 1, -1, -1};
        int[] liked = {1, 0, 1, 1, 0, 1, 0, 0};
        for (int i = 0; i < ids.length; i++) {
            CHECKS.same("query no. " + i, strong[i], node.query(ids[i]));
            CHECKS.same("liked no. " + i, liked[i], node.look(ids[i], 3));
        }
    }

    private static void newParents() {
        SnowNode node = fresh();
        Row[] rows = new Row[6];
        for (int i = 0; i < 6; i++) {
            rows[i] = spendOf(i, 1000000);
            rows[i].take(node);
        }
        spendOf(5, 999999, 1).take(node);
        for (int i = 0; i < 4; i++) {
            CHECKS.same("listed(0, " + i + ")", rows[5 - i].id(), node.listed(0, i));
        }
        for (int i : new int[] {4, 5, -1, Integer.MAX_VALUE, Integer.MIN_VALUE}) {
            CHECKS.same("listed(0, " + i + ")", -1, node.listed(0, i));
        }
        Row child = Row.under(rows[4].id(), rows[2].id()).spends(0, 6).pays(1000000);
        child.take(node);
        Row notStrong = Row.under(rows[5].id()).spends(0, 0).pays(1000000);
        notStrong.take(node);
        int[] want = {child.id(), rows[5].id(), rows[3].id(), rows[1].id(), -1};
        for (int i = 0; i < want.length; i++) {
            CHECKS.same("listed(0, " + i + ") with children", want[i], node.listed(0, i));
        }
        for (int which : new int[] {-1, 3, Integer.MAX_VALUE, Integer.MIN_VALUE}) {
            CHECKS.same("listed(" + which + ", 0)", -1, node.listed(which, 0));
        }
    }

    private static void missingParents() {
        SnowNode node = fresh();
        Row a = spendOf(0, 1000000);
        Row b = Row.under(50, a.id(), 50, 40).spends(0, 1).pays(1000000);
        Row c = Row.under(30, 0, 40, a.id()).spends(0, 1).pays(1000000);
        Row d = Row.under(b.id(), 20).spends(0, 1).pays(1000000);
        b.take(node);
        c.take(node);
        d.take(node);
        missing(node, 50, a.id(), 40, 30, 20);
        a.take(node);
        missing(node, 50, 40, 30, 20);
        Row bad = spendOf(0, 1);
        bad.take(node);
        Row.under(bad.id(), 60).spends(0, 1).pays(1).take(node);
        missing(node, 50, 40, 30, 20);
    }

    private static void missing(SnowNode node, int... want) {
        for (int i = 0; i < want.length; i++) {
            CHECKS.same("listed(2, " + i + ")", want[i], node.listed(2, i));
        }
        for (int i : new int[] {want.length, -1, Integer.MAX_VALUE, Integer.MIN_VALUE}) {
            CHECKS.same("listed(2, " + i + ")", -1, node.listed(2, i));
        }
    }
}
