/** Promise 15, case by case: which choices, rules and colours there are, and what is begun anew. */
public final class Promise15Test {
    public static void main(String[] args) {
        Cases.run(Promise15Test.class);
    }

    private static SnowNode fresh() {
        return new SnowNode(9, 4, 3, 2, 3);
    }

    private static void refused(Checks checks, int choice, int rule, int colours) {
        SnowNode node = fresh();
        checks.same("begin(" + choice + ", " + rule + ", " + colours + ")", false, node.begin(choice, rule, colours));
        for (int i = 0; i < 8; i++) {
            checks.same("state(" + i + ", 0)", Nodes.NONE, node.state(i, 0));
            checks.same("state(" + i + ", 1)", Nodes.NONE, node.state(i, 1));
        }
    }

    private static void begun(Checks checks, int choice, int rule, int colours) {
        SnowNode node = fresh();
        checks.same("begin(" + choice + ", " + rule + ", " + colours + ")", true, node.begin(choice, rule, colours));
        Nodes.choice(checks, node, choice, Nodes.NONE, 0, 0, 0, 0, 0);
        checks.same("the last colour's weight", 0, node.state(choice, 3 + colours));
        checks.same("no more colours", Nodes.NONE, node.state(choice, 4 + colours));
        for (int other = 0; other < 8; other++) {
            if (other != choice) {
                checks.same("state(" + other + ", 1)", Nodes.NONE, node.state(other, 1));
            }
        }
    }

    static void p15_choiceBelow0(Checks checks) {
        for (int choice : new int[] {-1, -8, Nodes.MIN}) {
            refused(checks, choice, 0, 2);
        }
    }

    static void p15_choiceOf0(Checks checks) {
        begun(checks, 0, 0, 2);
        begun(checks, 1, 0, 2);
    }

    static void p15_choiceOf7(Checks checks) {
        begun(checks, 6, 0, 2);
        begun(checks, 7, 0, 2);
    }

    static void p15_choiceAbove7(Checks checks) {
        for (int choice : new int[] {8, 9, Nodes.MAX}) {
            refused(checks, choice, 0, 2);
        }
    }

    static void p15_ruleBelow0(Checks checks) {
        for (int rule : new int[] {-1, -2, Nodes.MIN}) {
            refused(checks, 3, rule, 2);
        }
    }

    static void p15_ruleOf0To2(Checks checks) {
        for (int rule = 0; rule <= 2; rule++) {
            begun(checks, 3, rule, 4);
        }
    }

    static void p15_ruleAbove2(Checks checks) {
        for (int rule : new int[] {3, 4, Nodes.MAX}) {
            refused(checks, 3, rule, 2);
        }
    }

    static void p15_coloursBelow2(Checks checks) {
        for (int colours : new int[] {1, 0, -1, Nodes.MIN}) {
            refused(checks, 3, 0, colours);
        }
    }

    static void p15_coloursOf2(Checks checks) {
        begun(checks, 3, 2, 2);
        begun(checks, 3, 2, 3);
    }

    static void p15_coloursOf8(Checks checks) {
        begun(checks, 3, 2, 7);
        begun(checks, 3, 2, 8);
    }

    static void p15_coloursAbove8(Checks checks) {
        for (int colours : new int[] {9, 10, Nodes.MAX}) {
            refused(checks, 3, 0, colours);
        }
    }

    static void p15_allAreBegun(Checks checks) {
        SnowNode node = fresh();
        for (int choice = 0; choice < 8; choice++) {
            checks.same("begin(" + choice + ")", true, node.begin(choice, choice % 3, 2 + choice % 7));
            node.meet(choice, choice % 2);
        }
        for (int choice = 0; choice < 8; choice++) {
            checks.same("state(" + choice + ", 0)", choice % 2, node.state(choice, 0));
        }
    }

    // Anew

    static void p15_anewWithoutColour(Checks checks) {
        SnowNode node = fresh();
        node.begin(3, 0, 4);
        node.meet(3, 2);
        checks.same("begin", true, node.begin(3, 0, 4));
        Nodes.choice(checks, node, 3, Nodes.NONE, 0, 0, 0);
        checks.due("meet(3, 1)", 1, () -> node.meet(3, 1));
    }

    /** Votes of before neither fill the round nor win it. */
    static void p15_anewWithoutVotes(Checks checks) {
        SnowNode node = fresh();
        node.begin(3, 0, 4);
        node.votes(3, 1, 2);
        node.votes(3, 0, 2);
        checks.same("begin", true, node.begin(3, 0, 4));
        checks.same("votes", 0, node.state(3, 3));
        checks.due("votes(3, 1, 2)", "done", () -> Nodes.vote(node, 3, 1, 2));
        checks.same("the round", false, node.round(3));
        checks.due("votes(3, 1, 4)", "done", () -> Nodes.vote(node, 3, 1, 4));
    }

    static void p15_anewWithoutRun(Checks checks) {
        for (int rule = 0; rule <= 2; rule++) {
            SnowNode node = new SnowNode(9, 4, 3, 3, 3);
            node.begin(3, rule, 4);
            Nodes.rounds(node, 3, 3, 1, 1);
            checks.same("run", 2, node.state(3, 1));
            checks.same("begin", true, node.begin(3, rule, 4));
            checks.same("run anew", 0, node.state(3, 1));
            Nodes.rounds(node, 3, 3, 1, 1);
            Nodes.choice(checks, node, 3, 1, 2, 0, 0);
            Nodes.rounds(node, 3, 3, 1);
            Nodes.choice(checks, node, 3, 1, 3, 1, 0);
        }
    }

    static void p15_anewWithoutWeights(Checks checks) {
        SnowNode node = new SnowNode(9, 4, 3, 9, 9);
        node.begin(3, 2, 8);
        Nodes.rounds(node, 3, 3, 0, 7, 7);
        checks.same("begin", true, node.begin(3, 2, 8));
        for (int colour = 0; colour < 8; colour++) {
            checks.same("weight of " + colour, 0, node.state(3, 4 + colour));
        }
        Nodes.rounds(node, 3, 3, 0);
        checks.same("the colour", 0, node.state(3, 0));
    }

    /** Who won the last round before does not count; its run is 1 either way. */
    static void p15_anewWithoutTheLastWinner(Checks checks) {
        SnowNode node = new SnowNode(9, 4, 3, 9, 9);
        node.begin(3, 2, 2);
        Nodes.rounds(node, 3, 3, 1, 1);
        node.begin(3, 2, 2);
        Nodes.rounds(node, 3, 3, 1);
        Nodes.choice(checks, node, 3, 1, 1, 0, 0, 0, 1);
    }

    static void p15_anewWhenDecided(Checks checks) {
        for (int rule = 0; rule <= 2; rule++) {
            SnowNode node = new SnowNode(9, 4, 3, 1, 1);
            node.begin(3, rule, 2);
            Nodes.rounds(node, 3, 3, 1);
            checks.same("decided", 1, node.state(3, 2));
            checks.same("begin", true, node.begin(3, 2 - rule, 5));
            Nodes.choice(checks, node, 3, Nodes.NONE, 0, 0, 0);
            checks.due("votes(3, 4, 3)", "done", () -> Nodes.vote(node, 3, 4, 3));
            checks.due("round(3)", true, () -> node.round(3));
        }
    }

    static void p15_anewWithFewerAndMoreColours(Checks checks) {
        SnowNode node = fresh();
        node.begin(3, 2, 8);
        node.begin(3, 2, 2);
        checks.due("meet(3, 2) of two", Nodes.ARGUMENT, () -> node.meet(3, 2));
        checks.due("meet(3, 1) of two", 1, () -> node.meet(3, 1));
        node.begin(3, 2, 8);
        checks.due("meet(3, 7) of eight", 7, () -> node.meet(3, 7));
    }

    static void p15_anewByAnotherRule(Checks checks) {
        SnowNode node = new SnowNode(9, 4, 3, 1, 3);
        node.begin(3, 0, 2);
        node.begin(3, 1, 2);
        Nodes.rounds(node, 3, 3, 1);
        checks.same("decided by rule 1", 1, node.state(3, 2));
        node.begin(3, 0, 2);
        Nodes.rounds(node, 3, 3, 1, 0);
        checks.same("decided by rule 0, too early", 0, node.state(3, 2));
        Nodes.rounds(node, 3, 3, 1);
        checks.same("decided by rule 0", 1, node.state(3, 2));
    }

    static void p15_othersAreLeftAlone(Checks checks) {
        SnowNode node = fresh();
        node.begin(2, 2, 3);
        Nodes.rounds(node, 2, 3, 1);
        node.votes(2, 0, 2);
        node.begin(3, 0, 2);
        node.begin(1, 0, 2);
        Nodes.choice(checks, node, 2, 1, 1, 0, 2, 0, 1, 0, Nodes.NONE);
    }

    // Refused

    static void p15_refusedLeavesTheChoice(Checks checks) {
        SnowNode node = fresh();
        node.begin(3, 2, 3);
        Nodes.rounds(node, 3, 3, 1);
        node.votes(3, 1, 2);
        int[][] wrong = {{3, -1, 2}, {3, 3, 2}, {3, 0, 1}, {3, 0, 9}, {-1, 0, 2}, {8, 0, 2}, {8, 3, 9}};
        for (int[] args : wrong) {
            checks.same("begin", false, node.begin(args[0], args[1], args[2]));
            Nodes.choice(checks, node, 3, 1, 1, 0, 2, 0, 1, 0, Nodes.NONE);
        }
        node.votes(3, 1, 1);
        checks.same("the round is won", true, node.round(3));
        Nodes.choice(checks, node, 3, 1, 2, 0, 0, 0, 2, 0, Nodes.NONE);
    }

    static void p15_refusedChangesNothing(Checks checks) {
        Scene.refusedChangesNothing(checks, node -> {
            for (int choice : new int[] {0, 1, 2, 7}) {
                checks.same("begin(" + choice + ", 3, 2)", false, node.begin(choice, 3, 2));
                checks.same("begin(" + choice + ", -1, 2)", false, node.begin(choice, -1, 2));
                checks.same("begin(" + choice + ", 0, 1)", false, node.begin(choice, 0, 1));
                checks.same("begin(" + choice + ", 0, 9)", false, node.begin(choice, 0, 9));
            }
            checks.same("begin(-1, 0, 2)", false, node.begin(-1, 0, 2));
            checks.same("begin(8, 0, 2)", false, node.begin(8, 0, 2));
        });
    }
}
