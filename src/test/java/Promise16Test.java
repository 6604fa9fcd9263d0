/** Promise 16, case by case: which colours can be met, and when one is taken. */
public final class Promise16Test {
    public static void main(String[] args) {
        Cases.run(Promise16Test.class);
    }

    private static SnowNode begun(int rule, int colours) {
        SnowNode node = new SnowNode(9, 4, 3, 2, 3);
        node.begin(3, rule, colours);
        return node;
    }

    private static void refused(Checks checks, SnowNode node, int choice, int colour) {
        checks.due("meet(" + choice + ", " + colour + ")", Nodes.ARGUMENT, () -> node.meet(choice, colour));
    }

    static void p16_notBegun(Checks checks) {
        SnowNode node = begun(0, 2);
        for (int choice : new int[] {0, 2, 4, 7}) {
            refused(checks, node, choice, 0);
            checks.same("state(" + choice + ", 0)", Nodes.NONE, node.state(choice, 0));
        }
    }

    static void p16_noSuchChoice(Checks checks) {
        SnowNode node = begun(0, 2);
        for (int choice : new int[] {Nodes.MIN, -1, 8, 9, Nodes.MAX}) {
            refused(checks, node, choice, 0);
            refused(checks, node, choice, -1);
        }
    }

    static void p16_colourBelow0(Checks checks) {
        SnowNode node = begun(0, 2);
        for (int colour : new int[] {-1, -2, Nodes.MIN}) {
            refused(checks, node, 3, colour);
        }
        checks.same("state(3, 0)", Nodes.NONE, node.state(3, 0));
    }

    static void p16_firstAndLastColour(Checks checks) {
        for (int colours = 2; colours <= 8; colours++) {
            int last = colours - 1;
            SnowNode first = begun(0, colours);
            checks.due("meet(3, 0)", 0, () -> first.meet(3, 0));
            SnowNode other = begun(0, colours);
            checks.due("meet(3, " + last + ")", last, () -> other.meet(3, last));
            checks.same("state(3, 0)", last, other.state(3, 0));
        }
    }

    static void p16_colourBehindTheLast(Checks checks) {
        for (int colours = 2; colours <= 8; colours++) {
            SnowNode node = begun(0, colours);
            refused(checks, node, 3, colours);
            refused(checks, node, 3, colours + 1);
            refused(checks, node, 3, Nodes.MAX);
            checks.same("state(3, 0)", Nodes.NONE, node.state(3, 0));
        }
    }

    static void p16_noneTakesTheColour(Checks checks) {
        for (int rule = 0; rule <= 2; rule++) {
            SnowNode node = begun(rule, 4);
            checks.due("meet(3, 2)", 2, () -> node.meet(3, 2));
            Nodes.choice(checks, node, 3, 2, 0, 0, 0);
        }
    }

    static void p16_colourStays(Checks checks) {
        SnowNode node = begun(0, 4);
        node.meet(3, 0);
        for (int colour = 0; colour < 4; colour++) {
            int told = colour;
            checks.due("meet(3, " + colour + ")", 0, () -> node.meet(3, told));
        }
        checks.same("state(3, 0)", 0, node.state(3, 0));
    }

    /** A colour that was won stays, too. */
    static void p16_colourOfAWinnerStays(Checks checks) {
        for (int rule = 0; rule <= 2; rule++) {
            SnowNode node = begun(rule, 4);
            Nodes.rounds(node, 3, 3, 1);
            checks.due("meet(3, 2)", 1, () -> node.meet(3, 2));
            Nodes.choice(checks, node, 3, 1, 1, 0, 0);
        }
    }

    static void p16_noSuchColourWhenItHasOne(Checks checks) {
        SnowNode node = begun(0, 4);
        node.meet(3, 1);
        refused(checks, node, 3, 4);
        refused(checks, node, 3, -1);
        checks.same("state(3, 0)", 1, node.state(3, 0));
    }

    static void p16_decided(Checks checks) {
        for (int rule = 0; rule <= 2; rule++) {
            SnowNode node = new SnowNode(9, 4, 3, 1, 1);
            node.begin(3, rule, 4);
            Nodes.rounds(node, 3, 3, 1);
            checks.same("decided", 1, node.state(3, 2));
            checks.due("meet(3, 2)", 1, () -> node.meet(3, 2));
            checks.due("meet(3, 1)", 1, () -> node.meet(3, 1));
            refused(checks, node, 3, 4);
            refused(checks, node, 3, -1);
            Nodes.choice(checks, node, 3, 1, 1, 1, 0);
        }
    }

    /** A round without a winner leaves it without colour. */
    static void p16_noneBehindARoundWithoutAWinner(Checks checks) {
        for (int rule = 0; rule <= 2; rule++) {
            SnowNode node = begun(rule, 4);
            Nodes.rounds(node, 3, 2, 1, Nodes.NONE);
            checks.same("state(3, 0)", Nodes.NONE, node.state(3, 0));
            checks.due("meet(3, 2)", 2, () -> node.meet(3, 2));
        }
    }

    static void p16_votesAndWeightsAreLeftAlone(Checks checks) {
        SnowNode node = begun(2, 2);
        node.votes(3, 1, 2);
        node.meet(3, 0);
        Nodes.choice(checks, node, 3, 0, 0, 0, 2, 0, 0);
        node.votes(3, 1, 1);
        checks.same("the round", true, node.round(3));
        Nodes.choice(checks, node, 3, 1, 1, 0, 0, 0, 1);
    }

    static void p16_refusedChangesNothing(Checks checks) {
        Scene.refusedChangesNothing(checks, node -> {
            refused(checks, node, 2, 0);
            refused(checks, node, -1, 0);
            refused(checks, node, 8, 0);
            refused(checks, node, 0, 2);
            refused(checks, node, 0, -1);
            refused(checks, node, 7, 8);
        });
    }
}
