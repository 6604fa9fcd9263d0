/** Promise 18, case by case: who wins a round, what the three rules make of it, and when all is decided. */
public final class Promise18Test {
    public static void main(String[] args) {
        Cases.run(Promise18Test.class);
    }

    private static final int NONE = Nodes.NONE;

    /** K 4, ALPHA 3; three votes win. */
    private static SnowNode begun(int rule, int betaOne, int betaTwo) {
        SnowNode node = new SnowNode(9, 4, 3, betaOne, betaTwo);
        node.begin(3, rule, 4);
        return node;
    }

    /** Ends rounds that these win, and compares colour, run and whether it is decided. */
    private static void won(Checks checks, SnowNode node, int[] winners, int colour, int run, int decided) {
        for (int winner : winners) {
            if (winner != NONE) {
                node.votes(3, winner, 3);
            }
            checks.due("round(3)", winner != NONE, () -> node.round(3));
        }
        Nodes.choice(checks, node, 3, colour, run, decided, 0);
    }

    private static int[] by(int... winners) {
        return winners;
    }

    private static void refused(Checks checks, SnowNode node, int choice) {
        checks.due("round(" + choice + ")", Nodes.ARGUMENT, () -> node.round(choice));
    }

    // What is refused

    static void p18_notBegun(Checks checks) {
        SnowNode node = begun(0, 1, 1);
        for (int choice : new int[] {0, 2, 4, 7}) {
            refused(checks, node, choice);
            checks.same("state(" + choice + ", 1)", NONE, node.state(choice, 1));
        }
    }

    static void p18_noSuchChoice(Checks checks) {
        SnowNode node = begun(0, 1, 1);
        for (int choice : new int[] {Nodes.MIN, -1, 8, 9, Nodes.MAX}) {
            refused(checks, node, choice);
        }
    }

    static void p18_decidedChangesNoMore(Checks checks) {
        for (int rule = 0; rule <= 2; rule++) {
            SnowNode node = begun(rule, 2, 2);
            won(checks, node, by(1, 1), 1, 2, 1);
            int weight = node.state(3, 5);
            refused(checks, node, 3);
            refused(checks, node, 3);
            Nodes.choice(checks, node, 3, 1, 2, 1, 0, 0, weight);
        }
    }

    static void p18_refusedChangesNothing(Checks checks) {
        Scene.refusedChangesNothing(checks, node -> {
            refused(checks, node, -1);
            refused(checks, node, 8);
            refused(checks, node, 2);
            refused(checks, node, 1);
        });
    }

    // Who wins

    static void p18_votesOfAlphaAndOfOneLess(Checks checks) {
        for (int k = 1; k <= 10; k++) {
            for (int alpha = k / 2 + 1; alpha <= k; alpha++) {
                SnowNode node = new SnowNode(9, k, alpha, 20, 20);
                node.begin(3, 0, 4);
                if (alpha > 1) {
                    node.votes(3, 2, alpha - 1);
                }
                checks.same("one less of " + alpha, false, node.round(3));
                checks.same("the colour", NONE, node.state(3, 0));
                node.votes(3, 2, alpha);
                checks.same("as many as " + alpha, true, node.round(3));
                checks.same("the colour", 2, node.state(3, 0));
                node.votes(3, 1, k);
                checks.same("all " + k, true, node.round(3));
                checks.same("the colour", 1, node.state(3, 0));
            }
        }
    }

    static void p18_roundWithoutVotes(Checks checks) {
        for (int rule = 0; rule <= 2; rule++) {
            won(checks, begun(rule, 1, 1), by(NONE), NONE, 0, 0);
        }
    }

    static void p18_roundWithoutAWinnerOfAllColours(Checks checks) {
        for (int rule = 0; rule <= 2; rule++) {
            for (int colours = 2; colours <= 8; colours++) {
                SnowNode node = begun(rule, 1, 1);
                node.begin(3, rule, colours);
                node.votes(3, 0, 2);
                node.votes(3, colours - 1, 2);
                checks.due("round(3) of " + colours, false, () -> node.round(3));
                Nodes.choice(checks, node, 3, NONE, 0, 0, 0);
            }
        }
    }

    static void p18_votesOfTwoColoursDoNotWinTogether(Checks checks) {
        SnowNode node = begun(0, 1, 1);
        node.votes(3, 0, 2);
        node.votes(3, 1, 2);
        checks.same("the round", false, node.round(3));
        Nodes.choice(checks, node, 3, NONE, 0, 0, 0);
    }

    static void p18_votesInPartsWin(Checks checks) {
        SnowNode node = begun(0, 9, 9);
        node.votes(3, 2, 1);
        node.votes(3, 0, 1);
        node.votes(3, 2, 2);
        checks.same("the round", true, node.round(3));
        Nodes.choice(checks, node, 3, 2, 1, 0, 0);
    }

    static void p18_firstAndLastColourWin(Checks checks) {
        for (int rule = 0; rule <= 2; rule++) {
            SnowNode node = begun(rule, 9, 9);
            node.begin(3, rule, 8);
            won(checks, node, by(0), 0, 1, 0);
            node.begin(3, rule, 8);
            won(checks, node, by(7), 7, 1, 0);
        }
    }

    static void p18_votesAreGoneBehindAWonRound(Checks checks) {
        SnowNode node = begun(0, 9, 9);
        node.votes(3, 2, 4);
        node.round(3);
        checks.same("votes", 0, node.state(3, 3));
        checks.same("the next round", false, node.round(3));
        Nodes.choice(checks, node, 3, 2, 1, 0, 0);
    }

    static void p18_votesAreGoneBehindARoundWithoutAWinner(Checks checks) {
        SnowNode node = begun(0, 9, 9);
        node.votes(3, 2, 2);
        checks.same("the round", false, node.round(3));
        checks.same("votes", 0, node.state(3, 3));
        node.votes(3, 2, 1);
        checks.same("the next round", false, node.round(3));
        checks.same("state(3, 0)", NONE, node.state(3, 0));
    }

    static void p18_otherChoicesKeepTheirVotes(Checks checks) {
        SnowNode node = begun(0, 9, 9);
        node.begin(4, 0, 2);
        node.votes(4, 1, 3);
        checks.same("round(3)", false, node.round(3));
        checks.same("votes of the other one", 3, node.state(4, 3));
        checks.same("round(4)", true, node.round(4));
    }

    // Rule 0

    static void p18_rule0AnyWinnerIsOneMore(Checks checks) {
        SnowNode node = begun(0, 1, 9);
        won(checks, node, by(1), 1, 1, 0);
        won(checks, node, by(1), 1, 2, 0);
        won(checks, node, by(2), 2, 3, 0);
        won(checks, node, by(0), 0, 4, 0);
    }

    static void p18_rule0NoWinnerChangesNothing(Checks checks) {
        SnowNode node = begun(0, 1, 9);
        won(checks, node, by(NONE), NONE, 0, 0);
        won(checks, node, by(1, 2, NONE), 2, 2, 0);
        won(checks, node, by(NONE, NONE), 2, 2, 0);
        won(checks, node, by(2), 2, 3, 0);
    }

    static void p18_rule0MetColour(Checks checks) {
        SnowNode node = begun(0, 1, 9);
        node.meet(3, 3);
        won(checks, node, by(NONE), 3, 0, 0);
        won(checks, node, by(1), 1, 1, 0);
    }

    static void p18_rule0DecidedByBetaTwo(Checks checks) {
        SnowNode node = begun(0, 1, 4);
        won(checks, node, by(1, 2, NONE, 0), 0, 3, 0);
        won(checks, node, by(NONE), 0, 3, 0);
        won(checks, node, by(3), 3, 4, 1);
    }

    // Rule 1

    static void p18_rule1WinnerThatIsTheColour(Checks checks) {
        SnowNode node = begun(1, 9, 9);
        won(checks, node, by(1), 1, 1, 0);
        won(checks, node, by(1), 1, 2, 0);
        won(checks, node, by(1), 1, 3, 0);
    }

    static void p18_rule1AnotherWinner(Checks checks) {
        SnowNode node = begun(1, 9, 9);
        won(checks, node, by(1, 1, 1, 2), 2, 1, 0);
        won(checks, node, by(1), 1, 1, 0);
    }

    static void p18_rule1NoWinner(Checks checks) {
        SnowNode node = begun(1, 9, 9);
        won(checks, node, by(NONE), NONE, 0, 0);
        won(checks, node, by(1, 1, NONE), 1, 0, 0);
        won(checks, node, by(1), 1, 1, 0);
        won(checks, node, by(NONE, 2), 2, 1, 0);
    }

    static void p18_rule1MetColour(Checks checks) {
        SnowNode node = begun(1, 9, 9);
        node.meet(3, 3);
        won(checks, node, by(3), 3, 1, 0);
        won(checks, node, by(3), 3, 2, 0);
        SnowNode other = begun(1, 9, 9);
        other.meet(3, 3);
        won(checks, other, by(0), 0, 1, 0);
    }

    static void p18_rule1DecidedByBetaOne(Checks checks) {
        SnowNode node = begun(1, 3, 7);
        won(checks, node, by(1, 1, NONE, 1, 1), 1, 2, 0);
        won(checks, node, by(1), 1, 3, 1);
    }

    // Rule 2

    private static void weights(Checks checks, SnowNode node, int... want) {
        for (int colour = 0; colour < want.length; colour++) {
            checks.same("weight of " + colour, want[colour], node.state(3, 4 + colour));
        }
    }

    static void p18_rule2AsMuchWeightKeepsTheColour(Checks checks) {
        SnowNode node = begun(2, 1, 9);
        won(checks, node, by(1), 1, 1, 0);
        won(checks, node, by(2), 1, 1, 0);
        weights(checks, node, 0, 1, 1, 0);
    }

    static void p18_rule2MoreWeightChangesTheColour(Checks checks) {
        SnowNode node = begun(2, 1, 9);
        won(checks, node, by(1, 2, 2), 2, 2, 0);
        weights(checks, node, 0, 1, 2, 0);
        won(checks, node, by(1), 2, 1, 0);
        won(checks, node, by(1), 1, 2, 0);
        weights(checks, node, 0, 3, 2, 0);
    }

    static void p18_rule2LessWeightKeepsTheColour(Checks checks) {
        SnowNode node = begun(2, 1, 9);
        won(checks, node, by(1, 1, 1, 2), 1, 1, 0);
        won(checks, node, by(2), 1, 2, 0);
        weights(checks, node, 0, 3, 2, 0);
    }

    static void p18_rule2NoColour(Checks checks) {
        SnowNode node = begun(2, 1, 9);
        won(checks, node, by(NONE, NONE), NONE, 0, 0);
        won(checks, node, by(0), 0, 1, 0);
        weights(checks, node, 1, 0, 0, 0);
    }

    /** A colour that was met has no weight, so that the first winner is the colour. */
    static void p18_rule2MetColour(Checks checks) {
        SnowNode node = begun(2, 1, 9);
        node.meet(3, 3);
        weights(checks, node, 0, 0, 0, 0);
        won(checks, node, by(NONE), 3, 0, 0);
        won(checks, node, by(1), 1, 1, 0);
        won(checks, node, by(3), 1, 1, 0);
        weights(checks, node, 0, 1, 0, 1);
    }

    static void p18_rule2RunOfTheSameWinner(Checks checks) {
        SnowNode node = begun(2, 1, 9);
        won(checks, node, by(1, 1), 1, 2, 0);
        won(checks, node, by(1), 1, 3, 0);
    }

    /** The run is that of the winners, whether they are the colour or not. */
    static void p18_rule2RunOfAnotherWinner(Checks checks) {
        SnowNode node = begun(2, 1, 9);
        won(checks, node, by(1, 1, 1, 2), 1, 1, 0);
        won(checks, node, by(2), 1, 2, 0);
        won(checks, node, by(1), 1, 1, 0);
    }

    static void p18_rule2RoundWithoutAWinnerBetween(Checks checks) {
        SnowNode node = begun(2, 1, 9);
        won(checks, node, by(1, 1, NONE), 1, 0, 0);
        weights(checks, node, 0, 2, 0, 0);
        won(checks, node, by(1), 1, 1, 0);
        won(checks, node, by(1), 1, 2, 0);
        won(checks, node, by(NONE, NONE, 2), 1, 1, 0);
    }

    static void p18_rule2DecidedByBetaTwo(Checks checks) {
        SnowNode node = begun(2, 1, 3);
        won(checks, node, by(1, 1, NONE, 1, 1), 1, 2, 0);
        won(checks, node, by(1), 1, 3, 1);
        weights(checks, node, 0, 5, 0, 0);
    }

    /** The run of a winner that is not the colour decides for the colour. */
    static void p18_rule2DecidedWithAnotherColour(Checks checks) {
        SnowNode node = begun(2, 1, 3);
        won(checks, node, by(1, 1, NONE, 1, 1, NONE, 2, 2), 1, 2, 0);
        won(checks, node, by(2), 1, 3, 1);
        weights(checks, node, 0, 4, 3, 0);
    }

    // When it is decided

    static void p18_decidedByTheFirstRound(Checks checks) {
        for (int rule = 0; rule <= 2; rule++) {
            SnowNode node = begun(rule, 1, 1);
            won(checks, node, by(NONE), NONE, 0, 0);
            won(checks, node, by(2), 2, 1, 1);
        }
    }

    static void p18_decidedByTheLongestRuns(Checks checks) {
        int[] needed = {40, 20, 40};
        for (int rule = 0; rule <= 2; rule++) {
            SnowNode node = begun(rule, 20, 40);
            for (int i = 1; i < needed[rule]; i++) {
                Nodes.rounds(node, 3, 3, 1);
            }
            Nodes.choice(checks, node, 3, 1, needed[rule] - 1, 0, 0);
            Nodes.rounds(node, 3, 3, 1);
            Nodes.choice(checks, node, 3, 1, needed[rule], 1, 0);
        }
    }

    /** A colour that is only met decides nothing. */
    static void p18_notDecidedByMeeting(Checks checks) {
        for (int rule = 0; rule <= 2; rule++) {
            SnowNode node = begun(rule, 1, 1);
            node.meet(3, 1);
            won(checks, node, by(NONE, NONE), 1, 0, 0);
        }
    }
}
