import java.util.List;
import java.util.NoSuchElementException;
import java.util.Random;

/**
 * Any arguments in any state, behind the 512th call too and with as many transactions as there
 * can be: nothing is thrown but what the face names.
 */
public final class WildTest {
    private static final Checks CHECKS = new Checks();
    private static final int[] ODD = {Integer.MIN_VALUE, -1, 0, 1, 2, 3, 4, 7, 8, 19, 20, 55, 128, Integer.MAX_VALUE};
    private static final Class<?> ARGUMENT = IllegalArgumentException.class;
    private static final Class<?> STATE = IllegalStateException.class;
    private static final Class<?> INDEX = IndexOutOfBoundsException.class;

    public static void main(String[] args) {
        for (int run = 0; run < 30; run++) {
            wildCalls(new Random(run));
        }
        asManyAsThereCanBe();
        CHECKS.finish("WildTest");
    }

    private static void fits(String call, List<?> thrown, Checks.Call made) {
        Object answer = Checks.answerOf(made);
        CHECKS.same(call + " throws " + answer, true, !(answer instanceof Class) || thrown.contains(answer));
    }

    private static void wildCalls(Random dice) {
        SnowNode node = new SnowNode(odd(dice), odd(dice), odd(dice), odd(dice), odd(dice));
        int id = 0;
        for (int step = 0; step < 3000; step++) {
            int a = odd(dice);
            int b = odd(dice);
            int c = odd(dice);
            if (dice.nextInt(20) == 0) {
                Row row = Row.under(id).spends(id, dice.nextInt(2)).pays(1 + dice.nextInt(1000000));
                id = dice.nextInt(3) == 0 ? 0 : row.id();
                fits("take", List.of(ARGUMENT, STATE), () -> row.take(node));
            }
            oneCall(node, dice.nextInt(19), a, b, c);
            int from = id;
            fits("look", List.of(INDEX), () -> node.look(from, a));
            fits("set", List.of(INDEX), () -> node.set(from, a, b));
            fits("unspent", List.of(), () -> node.unspent(from, a));
            fits("byteOf", List.of(), () -> node.byteOf(from, a));
        }
    }

    private static int odd(Random dice) {
        return ODD[dice.nextInt(ODD.length)];
    }

    private static void oneCall(SnowNode node, int which, int a, int b, int c) {
        switch (which) {
            case 0: fits("weigh", List.of(), () -> node.weigh(a, b)); break;
            case 1: fits("feed", List.of(), () -> node.feed(a)); break;
            case 2: fits("take", List.of(ARGUMENT, STATE), () -> node.take(a)); break;
            case 3: fits("query", List.of(), () -> node.query(a)); break;
            case 4: fits("poll", List.of(NoSuchElementException.class, STATE), () -> node.poll()); break;
            case 5: fits("sampled", List.of(INDEX), () -> node.sampled(a, b)); break;
            case 6: fits("answer", List.of(ARGUMENT, STATE), () -> node.answer(a, b, c > 0)); break;
            case 7: fits("expire", List.of(), () -> node.expire(a)); break;
            case 8: fits("look", List.of(INDEX), () -> node.look(a, b)); break;
            case 9: fits("set", List.of(INDEX), () -> node.set(a, b, c)); break;
            case 10: fits("byteOf", List.of(), () -> node.byteOf(a, b)); break;
            case 11: fits("listed", List.of(), () -> node.listed(a, b)); break;
            case 12: fits("unspent", List.of(), () -> node.unspent(a, b)); break;
            case 13: fits("begin", List.of(), () -> node.begin(a, b, c)); break;
            case 14: fits("meet", List.of(ARGUMENT), () -> node.meet(a, b)); break;
            case 15: fits("votes", List.of(ARGUMENT, STATE), () -> { node.votes(a, b, c); return 0; }); break;
            case 16: fits("round", List.of(ARGUMENT), () -> node.round(a)); break;
            case 17: fits("state", List.of(), () -> node.state(a, b)); break;
            default: fits("count", List.of(), () -> node.count(a)); break;
        }
    }

    /** 140 transactions are more than 512 calls can bring; the limit stands all the same. */
    private static void asManyAsThereCanBe() {
        SnowNode node = new SnowNode(1, 1, 1, 1, 1);
        int id = 0;
        for (int i = 1; i < 140; i++) {
            Row row = Row.under(id).spends(id, 0).pays(1000000);
            CHECKS.due("take no. " + i, row.id(), () -> row.take(node));
            id = row.id();
        }
        int last = id;
        CHECKS.same("known", 140, node.count(0));
        CHECKS.same("held", 140, node.count(2));
        CHECKS.same("ancestors of the last", 139, node.look(last, 4));
        CHECKS.same("the last is strong", 1, node.query(last));
        Row more = Row.under(last).spends(last, 0).pays(1000000);
        CHECKS.due("one more", STATE, () -> more.take(node));
        CHECKS.due("one more that is no transaction", ARGUMENT, () -> Row.under(last).take(node));
        for (int i = 0; i < 139; i++) {
            int poll = node.poll();
            CHECKS.due("a yes", 1, () -> node.answer(poll, node.sampled(poll, 0), true));
        }
        CHECKS.same("accepted", 140, node.count(3));
        CHECKS.same("all unspent", 8000000, node.count(10));
    }
}
