/** Promise 19, case by case: which choices and questions there are, and what is 0 or NONE. */
public final class Promise19Test {
    public static void main(String[] args) {
        Cases.run(Promise19Test.class);
    }

    private static SnowNode begun(int rule, int colours) {
        SnowNode node = new SnowNode(9, 4, 3, 9, 9);
        node.begin(3, rule, colours);
        return node;
    }

    private static void stateDue(Checks checks, SnowNode node, int want, int choice, int what) {
        checks.same("state(" + choice + ", " + what + ")", want, node.state(choice, what));
    }

    static void p19_notBegun(Checks checks) {
        SnowNode node = begun(2, 8);
        for (int choice : new int[] {0, 2, 4, 7}) {
            for (int what = -1; what <= 12; what++) {
                stateDue(checks, node, Nodes.NONE, choice, what);
            }
        }
    }

    static void p19_noSuchChoice(Checks checks) {
        SnowNode node = begun(2, 8);
        node.begin(0, 2, 8);
        node.begin(7, 2, 8);
        for (int choice : new int[] {Nodes.MIN, -1, 8, 9, Nodes.MAX}) {
            for (int what = -1; what <= 12; what++) {
                stateDue(checks, node, Nodes.NONE, choice, what);
            }
        }
    }

    static void p19_firstAndLastChoice(Checks checks) {
        for (int choice : new int[] {0, 7}) {
            SnowNode node = begun(2, 2);
            node.begin(choice, 2, 2);
            Nodes.choice(checks, node, choice, Nodes.NONE, 0, 0, 0, 0, 0, Nodes.NONE);
        }
    }

    static void p19_whatBelow0(Checks checks) {
        for (int rule = 0; rule <= 2; rule++) {
            SnowNode node = begun(rule, 8);
            node.meet(3, 1);
            for (int what : new int[] {-1, -4, Nodes.MIN}) {
                stateDue(checks, node, Nodes.NONE, 3, what);
            }
        }
    }

    static void p19_colourAndWithout(Checks checks) {
        SnowNode node = begun(1, 8);
        stateDue(checks, node, Nodes.NONE, 3, 0);
        node.meet(3, 0);
        stateDue(checks, node, 0, 3, 0);
        Nodes.rounds(node, 3, 3, 7);
        stateDue(checks, node, 7, 3, 0);
    }

    static void p19_run(Checks checks) {
        SnowNode node = begun(1, 8);
        stateDue(checks, node, 0, 3, 1);
        Nodes.rounds(node, 3, 3, 7);
        stateDue(checks, node, 1, 3, 1);
        Nodes.rounds(node, 3, 3, 7);
        stateDue(checks, node, 2, 3, 1);
    }

    static void p19_decidedOrNot(Checks checks) {
        SnowNode node = new SnowNode(9, 4, 3, 2, 2);
        node.begin(3, 1, 2);
        stateDue(checks, node, 0, 3, 2);
        Nodes.rounds(node, 3, 3, 1);
        stateDue(checks, node, 0, 3, 2);
        Nodes.rounds(node, 3, 3, 1);
        stateDue(checks, node, 1, 3, 2);
    }

    /** The votes of all colours together. */
    static void p19_votesFrom0ToK(Checks checks) {
        SnowNode node = begun(0, 8);
        stateDue(checks, node, 0, 3, 3);
        node.votes(3, 7, 1);
        stateDue(checks, node, 1, 3, 3);
        node.votes(3, 0, 3);
        stateDue(checks, node, 4, 3, 3);
        node.round(3);
        stateDue(checks, node, 0, 3, 3);
    }

    static void p19_weightsByRule2(Checks checks) {
        for (int colours = 2; colours <= 8; colours++) {
            SnowNode node = begun(2, colours);
            Nodes.rounds(node, 3, 3, 0, colours - 1, colours - 1);
            stateDue(checks, node, 1, 3, 4);
            stateDue(checks, node, 2, 3, 3 + colours);
            for (int colour = 1; colour < colours - 1; colour++) {
                stateDue(checks, node, 0, 3, 4 + colour);
            }
        }
    }

    static void p19_noWeightsByOtherRules(Checks checks) {
        for (int rule = 0; rule <= 1; rule++) {
            SnowNode node = begun(rule, 8);
            Nodes.rounds(node, 3, 3, 0, 7, 7);
            for (int what = 4; what <= 11; what++) {
                stateDue(checks, node, 0, 3, what);
            }
        }
    }

    /** There is no such colour, whatever the rule. */
    static void p19_whatBehindTheLastColour(Checks checks) {
        for (int rule = 0; rule <= 2; rule++) {
            for (int colours = 2; colours <= 8; colours++) {
                SnowNode node = begun(rule, colours);
                stateDue(checks, node, 0, 3, 3 + colours);
                stateDue(checks, node, Nodes.NONE, 3, 4 + colours);
                stateDue(checks, node, Nodes.NONE, 3, 5 + colours);
                stateDue(checks, node, Nodes.NONE, 3, Nodes.MAX);
            }
        }
    }

    /** Weights that an earlier choice had by rule 2 are not those of a later one by another rule. */
    static void p19_weightsOfAnEarlierChoice(Checks checks) {
        for (int rule = 0; rule <= 2; rule++) {
            SnowNode node = begun(2, 8);
            Nodes.rounds(node, 3, 3, 1, 7);
            node.begin(3, rule, 2);
            stateDue(checks, node, 0, 3, 5);
            stateDue(checks, node, Nodes.NONE, 3, 11);
        }
    }
}
