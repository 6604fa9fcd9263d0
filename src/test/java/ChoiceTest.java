/** Promises 15 to 19: single choices by the three rules. */
public final class ChoiceTest {
    private static final Checks CHECKS = new Checks();
    private static final Class<?> ARGUMENT = IllegalArgumentException.class;
    private static final Class<?> STATE = IllegalStateException.class;
    private static final int[] WILD = {Integer.MIN_VALUE, -1, 8, Integer.MAX_VALUE};

    public static void main(String[] args) {
        wrongBegins();
        notBegun();
        meeting();
        voting();
        winning();
        ruleZero();
        ruleOne();
        ruleTwo();
        ruleTwoRun();
        metColours();
        decided();
        begunAnew();
        states();
        CHECKS.finish("ChoiceTest");
    }

    /** K 4, ALPHA 3, BETA1 2, BETA2 3. */
    private static SnowNode fresh() {
        return new SnowNode(9, 4, 3, 2, 3);
    }

    private static Object vote(SnowNode node, int choice, int colour, int n) {
        node.votes(choice, colour, n);
        return "done";
    }

    /** Ends rounds that the colours win one after the other; NONE is a round without a winner. */
    private static void win(SnowNode node, int choice, int... colours) {
        for (int colour : colours) {
            if (colour != SnowNode.NONE) {
                node.votes(choice, colour, 3);
            }
            CHECKS.same("round won by " + colour, colour != SnowNode.NONE, node.round(choice));
        }
    }

    private static void stands(SnowNode node, int choice, int colour, int run, int decided) {
        CHECKS.same("colour", colour, node.state(choice, 0));
        CHECKS.same("run", run, node.state(choice, 1));
        CHECKS.same("decided", decided, node.state(choice, 2));
        CHECKS.same("votes", 0, node.state(choice, 3));
    }

    private static void wrongBegins() {
        SnowNode node = fresh();
        for (int choice : WILD) {
            CHECKS.same("begin(" + choice + ", 0, 2)", false, node.begin(choice, 0, 2));
        }
        for (int rule : new int[] {-1, 3, Integer.MAX_VALUE, Integer.MIN_VALUE}) {
            CHECKS.same("begin(0, " + rule + ", 2)", false, node.begin(0, rule, 2));
        }
        for (int colours : new int[] {-1, 0, 1, 9, Integer.MAX_VALUE, Integer.MIN_VALUE}) {
            CHECKS.same("begin(0, 0, " + colours + ")", false, node.begin(0, 0, colours));
        }
        CHECKS.same("state(0, 0) behind wrong ones", -1, node.state(0, 0));
        for (int choice = 0; choice < 8; choice++) {
            CHECKS.same("begin", true, node.begin(choice, choice % 3, choice % 7 + 2));
        }
        node.meet(0, 1);
        CHECKS.same("a wrong begin", false, node.begin(0, 0, 9));
        CHECKS.same("it changes nothing", 1, node.state(0, 0));
    }

    private static void notBegun() {
        SnowNode node = fresh();
        node.begin(1, 0, 2);
        for (int choice : new int[] {Integer.MIN_VALUE, -1, 0, 2, 7, 8, Integer.MAX_VALUE}) {
            CHECKS.due("meet(" + choice + ", 0)", ARGUMENT, () -> node.meet(choice, 0));
            CHECKS.due("votes(" + choice + ", 0, 1)", ARGUMENT, () -> vote(node, choice, 0, 1));
            CHECKS.due("votes(" + choice + ", 0, 9)", ARGUMENT, () -> vote(node, choice, 0, 9));
            CHECKS.due("round(" + choice + ")", ARGUMENT, () -> node.round(choice));
            for (int what = -1; what < 13; what++) {
                CHECKS.same("state(" + choice + ", " + what + ")", -1, node.state(choice, what));
            }
        }
    }

    private static void meeting() {
        SnowNode node = fresh();
        node.begin(0, 1, 3);
        for (int colour : new int[] {-1, 3, Integer.MAX_VALUE, Integer.MIN_VALUE}) {
            CHECKS.due("meet(0, " + colour + ")", ARGUMENT, () -> node.meet(0, colour));
        }
        CHECKS.same("state(0, 0) behind wrong ones", -1, node.state(0, 0));
        CHECKS.due("the first meet", 2, () -> node.meet(0, 2));
        CHECKS.due("the second meet", 2, () -> node.meet(0, 0));
        CHECKS.due("meet of no colour behind these", ARGUMENT, () -> node.meet(0, 3));
        stands(node, 0, 2, 0, 0);
    }

    private static void voting() {
        SnowNode node = fresh();
        node.begin(0, 0, 2);
        for (int colour : new int[] {-1, 2, Integer.MAX_VALUE, Integer.MIN_VALUE}) {
            CHECKS.due("votes(0, " + colour + ", 1)", ARGUMENT, () -> vote(node, 0, colour, 1));
            CHECKS.due("votes(0, " + colour + ", 99)", ARGUMENT, () -> vote(node, 0, colour, 99));
        }
        for (int n : new int[] {0, -1, Integer.MIN_VALUE}) {
            CHECKS.due("votes(0, 0, " + n + ")", ARGUMENT, () -> vote(node, 0, 0, n));
        }
        for (int n : new int[] {5, Integer.MAX_VALUE}) {
            CHECKS.due("votes(0, 0, " + n + ")", STATE, () -> vote(node, 0, 0, n));
        }
        CHECKS.same("no votes so far", 0, node.state(0, 3));
        CHECKS.due("votes(0, 0, 2)", "done", () -> vote(node, 0, 0, 2));
        CHECKS.due("votes(0, 1, 1)", "done", () -> vote(node, 0, 1, 1));
        CHECKS.same("three votes", 3, node.state(0, 3));
        CHECKS.due("votes(0, 1, 2)", STATE, () -> vote(node, 0, 1, 2));
        CHECKS.due("votes(0, 1, max)", STATE, () -> vote(node, 0, 1, Integer.MAX_VALUE));
        CHECKS.due("votes(0, 1, 1) again", "done", () -> vote(node, 0, 1, 1));
        CHECKS.same("four votes", 4, node.state(0, 3));
        CHECKS.due("votes(0, 0, 1) when full", STATE, () -> vote(node, 0, 0, 1));
        CHECKS.due("a round of two and two", false, () -> node.round(0));
        CHECKS.same("the votes are gone", 0, node.state(0, 3));
        CHECKS.due("votes(0, 1, 4)", "done", () -> vote(node, 0, 1, 4));
    }

    private static void winning() {
        SnowNode node = fresh();
        node.begin(0, 0, 3);
        vote(node, 0, 2, 2);
        CHECKS.same("two votes do not win", false, node.round(0));
        vote(node, 0, 2, 1);
        CHECKS.same("votes are not kept for the next round", false, node.round(0));
        vote(node, 0, 2, 1);
        vote(node, 0, 1, 1);
        vote(node, 0, 2, 2);
        CHECKS.same("three votes in parts win", true, node.round(0));
        stands(node, 0, 2, 1, 0);
    }

    private static void ruleZero() {
        SnowNode node = fresh();
        node.begin(0, 0, 3);
        win(node, 0, -1);
        stands(node, 0, -1, 0, 0);
        win(node, 0, 2);
        stands(node, 0, 2, 1, 0);
        win(node, 0, -1);
        stands(node, 0, 2, 1, 0);
        win(node, 0, 0);
        stands(node, 0, 0, 2, 0);
        win(node, 0, 1);
        stands(node, 0, 1, 3, 1);
    }

    private static void ruleOne() {
        SnowNode node = new SnowNode(9, 4, 3, 3, 5);
        node.begin(0, 1, 3);
        win(node, 0, 1);
        stands(node, 0, 1, 1, 0);
        win(node, 0, 1);
        stands(node, 0, 1, 2, 0);
        win(node, 0, -1);
        stands(node, 0, 1, 0, 0);
        win(node, 0, 1);
        stands(node, 0, 1, 1, 0);
        win(node, 0, 1, 2);
        stands(node, 0, 2, 1, 0);
        win(node, 0, 2, 2);
        stands(node, 0, 2, 3, 1);
    }

    private static void ruleTwo() {
        SnowNode node = new SnowNode(9, 4, 3, 3, 4);
        node.begin(0, 2, 3);
        win(node, 0, 0, 0, 1, 1);
        stands(node, 0, 0, 2, 0);
        CHECKS.same("weight of 0", 2, node.state(0, 4));
        CHECKS.same("weight of 1", 2, node.state(0, 5));
        CHECKS.same("weight of 2", 0, node.state(0, 6));
        win(node, 0, 1);
        stands(node, 0, 1, 3, 0);
        win(node, 0, 2, -1, 2, 2, 2);
        stands(node, 0, 2, 3, 0);
        win(node, 0, 1, 0, 0, 0);
        stands(node, 0, 0, 3, 0);
        CHECKS.same("weight of 0", 5, node.state(0, 4));
        win(node, 0, 2, 2);
        stands(node, 0, 2, 2, 0);
        win(node, 0, 1, 1, 1, 1);
        stands(node, 0, 1, 4, 1);
        CHECKS.same("weight of 1", 8, node.state(0, 5));
    }

    /** The run follows the winners, not the colour: a colour may be decided that did not win last. */
    private static void ruleTwoRun() {
        SnowNode node = new SnowNode(9, 4, 3, 2, 3);
        node.begin(0, 2, 2);
        win(node, 0, 0, 0, 1, 0, 0);
        stands(node, 0, 0, 2, 0);
        win(node, 0, 1, 1);
        stands(node, 0, 0, 2, 0);
        win(node, 0, -1);
        stands(node, 0, 0, 0, 0);
        win(node, 0, 1);
        stands(node, 0, 0, 1, 0);
        win(node, 0, -1, 0, 0, -1, 1, 1);
        stands(node, 0, 0, 2, 0);
        win(node, 0, 1);
        stands(node, 0, 1, 3, 1);
        SnowNode other = new SnowNode(9, 4, 3, 2, 2);
        other.begin(0, 2, 2);
        win(other, 0, 0, 1, 0, 1, 0, -1, 0, 1);
        stands(other, 0, 0, 1, 0);
        win(other, 0, 1);
        stands(other, 0, 0, 2, 1);
    }

    private static void metColours() {
        SnowNode node = fresh();
        node.begin(0, 0, 2);
        node.begin(1, 1, 2);
        node.begin(2, 2, 2);
        for (int choice = 0; choice < 3; choice++) {
            node.meet(choice, 1);
        }
        win(node, 0, 1);
        win(node, 1, 1);
        win(node, 2, 0);
        stands(node, 0, 1, 1, 0);
        stands(node, 1, 1, 1, 0);
        stands(node, 2, 0, 1, 0);
        win(node, 2, 1);
        stands(node, 2, 0, 1, 0);
        CHECKS.same("a colour met has no weight by that", 1, node.state(2, 5));
    }

    private static void decided() {
        SnowNode node = new SnowNode(9, 4, 3, 1, 1);
        for (int rule = 0; rule < 3; rule++) {
            int choice = rule;
            node.begin(choice, rule, 3);
            win(node, choice, 1);
            stands(node, choice, 1, 1, 1);
            CHECKS.due("votes when decided", ARGUMENT, () -> vote(node, choice, 1, 1));
            CHECKS.due("too many votes when decided", ARGUMENT, () -> vote(node, choice, 1, 9));
            CHECKS.due("round when decided", ARGUMENT, () -> node.round(choice));
            CHECKS.due("meet when decided", 1, () -> node.meet(choice, 2));
            CHECKS.due("meet of no colour when decided", ARGUMENT, () -> node.meet(choice, 3));
            stands(node, choice, 1, 1, 1);
        }
    }

    private static void begunAnew() {
        SnowNode node = fresh();
        node.begin(5, 2, 8);
        win(node, 5, 7, 7);
        vote(node, 5, 7, 2);
        CHECKS.same("begin anew", true, node.begin(5, 2, 8));
        stands(node, 5, -1, 0, 0);
        CHECKS.same("no weight", 0, node.state(5, 11));
        win(node, 5, 7);
        stands(node, 5, 7, 1, 0);
        win(node, 5, 7, 7);
        stands(node, 5, 7, 3, 1);
        CHECKS.same("begin a decided one anew", true, node.begin(5, 1, 2));
        stands(node, 5, -1, 0, 0);
        CHECKS.due("a colour of the old choice", ARGUMENT, () -> node.meet(5, 7));
        CHECKS.due("votes in the new one", "done", () -> vote(node, 5, 1, 1));
    }

    private static void states() {
        SnowNode node = fresh();
        for (int rule = 0; rule < 3; rule++) {
            node.begin(rule, rule, 2 + 3 * rule);
            win(node, rule, 1);
            for (int what = 4; what < 15; what++) {
                boolean there = what - 4 < 2 + 3 * rule;
                int weight = rule == 2 && what == 5 ? 1 : 0;
                CHECKS.same("state(" + rule + ", " + what + ")", there ? weight : -1, node.state(rule, what));
            }
            for (int what : new int[] {-1, Integer.MIN_VALUE, Integer.MAX_VALUE}) {
                CHECKS.same("state(" + rule + ", " + what + ")", -1, node.state(rule, what));
            }
        }
    }
}
