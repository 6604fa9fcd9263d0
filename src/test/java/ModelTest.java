import java.util.ArrayList;
import java.util.List;
import java.util.Random;

/**
 * Runs of calls made by dice that always fall the same way, asked of the class and of the slow
 * model of the document. Looking at everything needs more than 512 calls; the class counts none,
 * and what looks changes nothing, so the runs themselves are kept under 512 calls that change.
 */
public final class ModelTest {
    private static final int RUNS = 160;
    private static final int STEPS = 500;
    private static final int[] WILD = {Integer.MIN_VALUE, -2, -1, 0, 1, 2, 3, 4, 5, 7, 8, 9, 10, 11, 12, 19, 20,
        1000, 1001, Integer.MAX_VALUE};

    private final Checks checks;
    private final Random dice;
    private final String name;
    private final SnowNode node;
    private final Model model;
    /** Knows every row at once, those too that come late to the node. */
    private final Model planner = new Model(0, 1, 1, 1, 1);
    private final List<Row> late = new ArrayList<>();
    private int steps = 0;

    private ModelTest(Checks checks, int run) {
        this.checks = checks;
        this.dice = new Random(run);
        int seed = dice.nextInt();
        int k = run % 5 == 4 ? wild() : 1 + dice.nextInt(3);
        int alpha = dice.nextInt(5);
        int betaOne = run % 7 == 6 ? wild() : 1 + dice.nextInt(3);
        int betaTwo = run % 7 == 6 ? wild() : betaOne + dice.nextInt(4);
        this.name = "run " + run + " (" + seed + ", " + k + ", " + alpha + ", " + betaOne + ", " + betaTwo + "): ";
        this.node = new SnowNode(seed, k, alpha, betaOne, betaTwo);
        this.model = new Model(seed, k, alpha, betaOne, betaTwo);
    }

    public static void main(String[] args) {
        Checks checks = new Checks();
        int[] seen = new int[9];
        for (int run = 0; run < RUNS && checks.wrong() < 20; run++) {
            ModelTest test = new ModelTest(checks, run);
            test.play();
            for (int what = 0; what < 9; what++) {
                seen[what] += test.model.count(what);
            }
        }
        System.out.println("known " + seen[0] + ", waiting " + seen[1] + ", held " + seen[2] + ", accepted " + seen[3]
                + ", rejected " + seen[4] + ", bad " + seen[5] + ", polls " + seen[7] + ", won " + seen[8]);
        for (int what : new int[] {1, 3, 4, 5, 8}) {
            checks.same("the runs reach what count(" + what + ") counts", true, seen[what] > RUNS);
        }
        checks.finish("ModelTest");
    }

    private int wild() {
        return WILD[dice.nextInt(WILD.length)];
    }

    private void same(String call, Checks.Call right, Checks.Call made) {
        steps++;
        checks.same(name + "step " + steps + ": " + call, Checks.answerOf(right), Checks.answerOf(made));
    }

    private void play() {
        while (steps < STEPS && checks.wrong() < 20) {
            switch (dice.nextInt(12)) {
                case 0: case 1: case 2: transaction(); break;
                case 3: case 4: pollOnce(); break;
                case 5: case 6: case 7: case 8: answerOnce(); break;
                case 9: choose(); break;
                case 10: oddCall(); break;
                default: if (!late.isEmpty()) { give(late.remove(dice.nextInt(late.size()))); } break;
            }
            if (dice.nextInt(8) == 0) {
                compareAll();
            }
        }
        compareAll();
    }

    private int someParent() {
        List<Integer> ids = planner.ids();
        if (dice.nextInt(40) != 0) {
            ids.removeIf(id -> planner.query(id) == SnowNode.NONE);
        }
        int back = dice.nextInt(3) == 0 ? ids.size() : Math.min(ids.size(), 5);
        return ids.get(ids.size() - 1 - dice.nextInt(back));
    }

    private List<Integer> someParents() {
        int many = 1 + dice.nextInt(dice.nextInt(3) == 0 ? 4 : 2);
        List<Integer> parents = new ArrayList<>();
        for (int i = 0; i < many; i++) {
            int listed = dice.nextInt(3) == 0 ? model.listed(0, i) : -1;
            int parent = listed >= 0 ? listed : someParent();
            if (!parents.contains(parent) || dice.nextInt(30) == 0) {
                parents.add(parent);
            }
        }
        return parents;
    }

    private void transaction() {
        List<Integer> parents = someParents();
        List<long[]> spendable = planner.spendableUnder(parents);
        int many = 1 + dice.nextInt(3);
        List<Integer> inputs = new ArrayList<>();
        long sum = 0;
        for (int i = 0; i < many && !spendable.isEmpty(); i++) {
            long[] output = spendable.get(dice.nextInt(spendable.size()));
            inputs.add((int) output[0]);
            inputs.add((int) output[1]);
            sum += output[2];
            if (dice.nextInt(40) != 0) {
                spendable.removeIf(other -> other[0] == output[0] && other[1] == output[1]);
            }
        }
        if (dice.nextInt(25) == 0) {
            sum += dice.nextInt(3) - 1;
        }
        Row row = Row.under(toArray(parents)).spends(toArray(inputs)).pays(split(sum));
        planned(row);
        if (dice.nextInt(6) == 0) {
            late.add(row);
        } else {
            give(row);
        }
    }

    private void planned(Row row) {
        for (int word : Row.words(row.bytes())) {
            planner.feed(word);
        }
        Checks.answerOf(() -> planner.take(row.bytes().length));
    }

    private int[] split(long sum) {
        int many = (int) Math.min(1 + dice.nextInt(4), Math.max(1, sum));
        int[] amounts = new int[many];
        long left = sum;
        for (int i = 0; i < many - 1; i++) {
            amounts[i] = (int) Math.max(1, Math.min(1000000000, left / many));
            left -= amounts[i];
        }
        amounts[many - 1] = (int) left;
        return amounts;
    }

    private static int[] toArray(List<Integer> list) {
        return list.stream().mapToInt(Integer::intValue).toArray();
    }

    private void give(Row row) {
        byte[] bytes = row.bytes();
        for (int word : Row.words(bytes)) {
            same("feed", () -> model.feed(word), () -> node.feed(word));
        }
        int n = dice.nextInt(40) == 0 ? wild() : bytes.length;
        same("take(" + n + ")", () -> model.take(n), () -> node.take(n));
    }

    private void pollOnce() {
        same("poll()", () -> model.poll(), () -> node.poll());
        int poll = model.count(7) - 1;
        for (int j = -2; j < 12; j++) {
            int at = j;
            checks.same(name + "sampled(" + poll + ", " + at + ")", Checks.answerOf(() -> model.sampled(poll, at)),
                    Checks.answerOf(() -> node.sampled(poll, at)));
        }
    }

    private void answerOnce() {
        List<Integer> open = model.openPolls();
        if (open.isEmpty()) {
            return;
        }
        int poll = open.get(dice.nextInt(open.size()));
        if (dice.nextInt(25) == 0) {
            same("expire(" + poll + ")", () -> model.expire(poll), () -> node.expire(poll));
            return;
        }
        boolean yes = dice.nextInt(6) != 0;
        int many = 1 + dice.nextInt(3);
        for (int j = 0; j < many; j++) {
            int at = j;
            Object peer = dice.nextInt(20) == 0 ? (Object) wild() : Checks.answerOf(() -> model.sampled(poll, at));
            if (peer instanceof Integer) {
                int who = (Integer) peer;
                same("answer(" + poll + ", " + who + ", " + yes + ")", () -> model.answer(poll, who, yes),
                        () -> node.answer(poll, who, yes));
            }
        }
    }

    private void choose() {
        int choice = dice.nextInt(3);
        if (model.state(choice, 2) != 0) {
            int rule = dice.nextInt(3);
            int colours = 2 + dice.nextInt(3);
            same("begin", () -> model.begin(choice, rule, colours), () -> node.begin(choice, rule, colours));
        }
        for (int i = 0; i < 4; i++) {
            int colour = dice.nextInt(2);
            int n = 1 + dice.nextInt(4);
            same("votes(" + choice + ", " + colour + ", " + n + ")", () -> vote(model, choice, colour, n),
                    () -> vote(node, choice, colour, n));
            if (dice.nextInt(3) != 0) {
                same("round(" + choice + ")", () -> model.round(choice), () -> node.round(choice));
            }
        }
    }

    private static Object vote(Model model, int choice, int colour, int n) {
        model.votes(choice, colour, n);
        return "done";
    }

    private static Object vote(SnowNode node, int choice, int colour, int n) {
        node.votes(choice, colour, n);
        return "done";
    }

    private void oddCall() {
        int a = wild();
        int b = wild();
        int c = wild();
        String args = "(" + a + ", " + b + ", " + c + ")";
        switch (dice.nextInt(9)) {
            case 0: same("weigh" + args, () -> model.weigh(a, b), () -> node.weigh(a, b)); break;
            case 1: same("take" + args, () -> model.take(a), () -> node.take(a)); break;
            case 2: same("answer" + args, () -> model.answer(a, b, c > 0), () -> node.answer(a, b, c > 0)); break;
            case 3: same("expire" + args, () -> model.expire(a), () -> node.expire(a)); break;
            case 4: same("begin" + args, () -> model.begin(a, b, c), () -> node.begin(a, b, c)); break;
            case 5: same("meet" + args, () -> model.meet(a, b), () -> node.meet(a, b)); break;
            case 6: same("votes" + args, () -> vote(model, a, b, c), () -> vote(node, a, b, c)); break;
            case 7: same("round" + args, () -> model.round(a), () -> node.round(a)); break;
            default: same("weigh", () -> model.weigh(a & 15, 3), () -> node.weigh(a & 15, 3)); break;
        }
    }

    private void compare(String call, Checks.Call right, Checks.Call made) {
        checks.same(name + "behind step " + steps + ": " + call, Checks.answerOf(right), Checks.answerOf(made));
    }

    private void compareAll() {
        List<Integer> ids = model.ids();
        ids.add(4711);
        ids.add(-1);
        for (int id : ids) {
            compare("query(" + id + ")", () -> model.query(id), () -> node.query(id));
            for (int i = -1; i < 11; i++) {
                int what = i;
                compare("look(" + id + ", " + what + ")", () -> model.look(id, what), () -> node.look(id, what));
            }
            int outputs = model.look(id, 8);
            for (int i = -1; i <= outputs; i++) {
                int index = i;
                compare("unspent(" + id + ", " + index + ")", () -> model.unspent(id, index),
                        () -> node.unspent(id, index));
                for (int w = -1; w < 6; w++) {
                    int what = w;
                    compare("set(" + id + ", " + index + ", " + what + ")", () -> model.set(id, index, what),
                            () -> node.set(id, index, what));
                }
            }
            int k = dice.nextInt(58) - 1;
            compare("byteOf(" + id + ", " + k + ")", () -> model.byteOf(id, k), () -> node.byteOf(id, k));
        }
        for (int i = -1; i < 14; i++) {
            int at = i;
            compare("count(" + at + ")", () -> model.count(at), () -> node.count(at));
            for (int which = -1; which < 4; which++) {
                int list = which;
                compare("listed(" + list + ", " + at + ")", () -> model.listed(list, at), () -> node.listed(list, at));
            }
            for (int choice = -1; choice < 9; choice++) {
                int of = choice;
                compare("state(" + of + ", " + at + ")", () -> model.state(of, at), () -> node.state(of, at));
            }
        }
    }
}
