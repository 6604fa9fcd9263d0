import java.util.ArrayList;
import java.util.List;
import java.util.function.Consumer;

/**
 * A node with something of everything: transactions of every state, polls open and closed, bytes
 * on the tape, choices of every rule. Two such nodes, one of which was asked what it must refuse,
 * have to go on alike. All of it stays under 512 calls a node.
 */
final class Scene {
    static final Row WON = Nodes.spend(0, 600000, 400000);
    static final Row LOST = Row.under(0).spends(0, 0, 0, 1).pays(2000000);
    static final Row CHILD = Row.under(WON.id()).spends(WON.id(), 0).pays(600000);
    static final Row OPEN = Nodes.spend(2, 1000000);
    static final Row LATE = Row.under(77).spends(0, 3).pays(1000000);
    static final Row UNSOUND = Nodes.spend(3, 1000001);
    static final Row NEXT = Nodes.spend(4, 1000000);
    /** Poll 0 and 2 were won; these are open, with a yes each and with a no for the second. */
    static final int POLL_LOST = 1;
    static final int POLL_OPEN = 3;

    private final List<Object> answers = new ArrayList<Object>();
    private final List<String> names = new ArrayList<String>();
    final SnowNode node;

    Scene() {
        node = new SnowNode(11, 3, 2, 1, 2);
        node.weigh(3, 0);
        node.weigh(5, 40);
        Nodes.takeAll(node, WON, LOST, CHILD, OPEN, LATE, UNSOUND);
        for (int i = 0; i < 4; i++) {
            node.poll();
        }
        Nodes.say(node, 0, true);
        node.answer(POLL_LOST, node.sampled(POLL_LOST, 0), true);
        Nodes.say(node, 2, true);
        node.answer(POLL_OPEN, node.sampled(POLL_OPEN, 0), true);
        node.answer(POLL_OPEN, node.sampled(POLL_OPEN, 1), false);
        int[] words = Row.words(NEXT.bytes());
        node.feed(words[0]);
        node.feed(words[1]);
        node.begin(0, 0, 2);
        Nodes.rounds(node, 0, 2, 1);
        node.votes(0, 0, 2);
        node.begin(1, 1, 3);
        Nodes.rounds(node, 1, 3, 2);
        node.begin(7, 2, 8);
        Nodes.rounds(node, 7, 2, 7);
        node.votes(7, 7, 1);
    }

    /** Both are asked everything, at once and behind some calls more; one was asked what is refused. */
    static void refusedChangesNothing(Checks checks, Consumer<SnowNode> refused) {
        for (int later = 0; later < 2; later++) {
            Scene plain = new Scene();
            Scene asked = new Scene();
            asked.isAsTold(checks);
            refused.accept(asked.node);
            for (Scene scene : new Scene[] {plain, asked}) {
                if (later == 1) {
                    scene.goOn();
                }
                scene.readAll();
            }
            for (int i = 0; i < plain.answers.size(); i++) {
                checks.same(plain.names.get(i) + " behind what was refused", plain.answers.get(i),
                        asked.answers.get(i));
            }
        }
    }

    private void isAsTold(Checks checks) {
        Nodes.state(checks, node, "WON", Nodes.ACCEPTED, WON);
        Nodes.state(checks, node, "LOST", Nodes.REJECTED, LOST);
        Nodes.state(checks, node, "CHILD", Nodes.ACCEPTED, CHILD);
        Nodes.state(checks, node, "OPEN", Nodes.HELD, OPEN);
        Nodes.state(checks, node, "LATE", Nodes.WAITING, LATE);
        Nodes.state(checks, node, "UNSOUND", Nodes.BAD, UNSOUND);
        checks.same("polls open", 2, node.count(6));
        checks.same("bytes on the tape", 8, node.count(9));
        Nodes.choice(checks, node, 0, 1, 1, 0, 2);
        Nodes.choice(checks, node, 1, 2, 1, 1, 0);
        Nodes.choice(checks, node, 7, 7, 1, 0, 1);
    }

    private void ask(String name, Checks.Call call) {
        names.add(name);
        answers.add(Checks.answerOf(call));
    }

    /** Uses what no answer shows by itself: the tape's bytes, the generator, who has spoken. */
    private void goOn() {
        int[] words = Row.words(NEXT.bytes());
        node.feed(words[2]);
        node.feed(words[3]);
        ask("take(16)", () -> node.take(16));
        ask("poll()", () -> node.poll());
        ask("answer by a third one", () -> node.answer(POLL_OPEN, node.sampled(POLL_OPEN, 2), true));
        for (int j = 0; j < 3; j++) {
            int at = j;
            ask("sampled(4, " + j + ")", () -> node.sampled(4, at));
        }
        ask("answer by one who spoke", () -> node.answer(POLL_LOST, node.sampled(POLL_LOST, 0), false));
        ask("answer by one who did not", () -> node.answer(POLL_LOST, node.sampled(POLL_LOST, 1), false));
        ask("votes(7, 7, 1)", () -> Nodes.vote(node, 7, 7, 1));
        ask("round(7)", () -> node.round(7));
        ask("votes(0, 0, 1)", () -> Nodes.vote(node, 0, 0, 1));
        ask("votes(0, 1, 1)", () -> Nodes.vote(node, 0, 1, 1));
        ask("round(0)", () -> node.round(0));
    }

    private void readAll() {
        for (int what = 0; what <= 10; what++) {
            int of = what;
            ask("count(" + of + ")", () -> node.count(of));
        }
        for (int which = 0; which < 3; which++) {
            int of = which;
            for (int i = 0; i < 5; i++) {
                int at = i;
                ask("listed(" + of + ", " + at + ")", () -> node.listed(of, at));
            }
        }
        for (int poll = 0; poll < 5; poll++) {
            int of = poll;
            for (int j = -1; j < 3; j++) {
                int at = j;
                ask("sampled(" + of + ", " + at + ")", () -> node.sampled(of, at));
            }
        }
        for (int choice : new int[] {0, 1, 2, 7}) {
            for (int what : new int[] {0, 1, 2, 3, 4, 5, 11}) {
                ask("state(" + choice + ", " + what + ")", () -> node.state(choice, what));
            }
        }
        readTransactions();
    }

    private void readTransactions() {
        for (Row row : new Row[] {WON, LOST, CHILD, OPEN, LATE, UNSOUND, NEXT}) {
            int id = row.id();
            for (int what : new int[] {0, 1, 2, 3, 4, 5, 9}) {
                ask("look(" + id + ", " + what + ")", () -> node.look(id, what));
            }
            ask("query(" + id + ")", () -> node.query(id));
            ask("unspent(" + id + ", 0)", () -> node.unspent(id, 0));
        }
        ask("look(0, 1)", () -> node.look(0, 1));
        for (int index = 0; index < 6; index++) {
            for (int what = 0; what < 5; what++) {
                int of = index;
                int asked = what;
                ask("set(0, " + of + ", " + asked + ")", () -> node.set(0, of, asked));
            }
            int of = index;
            ask("unspent(0, " + of + ")", () -> node.unspent(0, of));
        }
    }
}
