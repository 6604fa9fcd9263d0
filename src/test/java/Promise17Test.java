/** Promise 17, case by case: how many votes a round has, and which exception comes first. */
public final class Promise17Test {
    public static void main(String[] args) {
        Cases.run(Promise17Test.class);
    }

    private static SnowNode begun(int k) {
        SnowNode node = new SnowNode(9, k, k, 1, 1);
        node.begin(3, 0, 4);
        return node;
    }

    private static void voted(Checks checks, SnowNode node, int choice, int colour, int n, Object want) {
        checks.due("votes(" + choice + ", " + colour + ", " + n + ")", want, () -> Nodes.vote(node, choice, colour, n));
    }

    private static void votesDue(Checks checks, SnowNode node, int want) {
        checks.same("state(3, 3)", want, node.state(3, 3));
    }

    // The choice

    static void p17_notBegun(Checks checks) {
        SnowNode node = begun(4);
        for (int choice : new int[] {0, 2, 4, 7}) {
            voted(checks, node, choice, 0, 1, Nodes.ARGUMENT);
        }
    }

    static void p17_noSuchChoice(Checks checks) {
        SnowNode node = begun(4);
        for (int choice : new int[] {Nodes.MIN, -1, 8, 9, Nodes.MAX}) {
            voted(checks, node, choice, 0, 1, Nodes.ARGUMENT);
        }
    }

    static void p17_decided(Checks checks) {
        for (int rule = 0; rule <= 2; rule++) {
            SnowNode node = begun(4);
            node.begin(3, rule, 4);
            Nodes.rounds(node, 3, 4, 1);
            checks.same("decided", 1, node.state(3, 2));
            voted(checks, node, 3, 1, 1, Nodes.ARGUMENT);
            votesDue(checks, node, 0);
        }
    }

    // The colour

    static void p17_colourBelow0(Checks checks) {
        SnowNode node = begun(4);
        for (int colour : new int[] {-1, -2, Nodes.MIN}) {
            voted(checks, node, 3, colour, 1, Nodes.ARGUMENT);
        }
        votesDue(checks, node, 0);
    }

    static void p17_firstAndLastColour(Checks checks) {
        for (int colours = 2; colours <= 8; colours++) {
            SnowNode node = begun(4);
            node.begin(3, 0, colours);
            voted(checks, node, 3, 0, 1, "done");
            voted(checks, node, 3, colours - 1, 1, "done");
            votesDue(checks, node, 2);
        }
    }

    static void p17_colourBehindTheLast(Checks checks) {
        for (int colours = 2; colours <= 8; colours++) {
            SnowNode node = begun(4);
            node.begin(3, 0, colours);
            voted(checks, node, 3, colours, 1, Nodes.ARGUMENT);
            voted(checks, node, 3, colours + 1, 1, Nodes.ARGUMENT);
            voted(checks, node, 3, Nodes.MAX, 1, Nodes.ARGUMENT);
            votesDue(checks, node, 0);
        }
    }

    // n

    static void p17_nOf0(Checks checks) {
        SnowNode node = begun(4);
        voted(checks, node, 3, 0, 0, Nodes.ARGUMENT);
        votesDue(checks, node, 0);
    }

    static void p17_nBelow0(Checks checks) {
        SnowNode node = begun(4);
        node.votes(3, 1, 2);
        for (int n : new int[] {-1, -2, -4, Nodes.MIN}) {
            voted(checks, node, 3, 1, n, Nodes.ARGUMENT);
        }
        votesDue(checks, node, 2);
    }

    static void p17_nOf1(Checks checks) {
        SnowNode node = begun(4);
        for (int i = 1; i <= 4; i++) {
            voted(checks, node, 3, 0, 1, "done");
            votesDue(checks, node, i);
        }
    }

    static void p17_nOfKWithoutVotes(Checks checks) {
        for (int k = 1; k <= 10; k++) {
            SnowNode node = begun(k);
            voted(checks, node, 3, 0, k, "done");
            votesDue(checks, node, k);
        }
    }

    static void p17_nOfOneMoreThanK(Checks checks) {
        for (int k = 1; k <= 10; k++) {
            SnowNode node = begun(k);
            voted(checks, node, 3, 0, k + 1, Nodes.STATE);
            voted(checks, node, 3, 0, Nodes.MAX, Nodes.STATE);
            votesDue(checks, node, 0);
        }
    }

    /** All colours together, not each by itself. */
    static void p17_votesForOtherColoursCount(Checks checks) {
        SnowNode node = begun(4);
        voted(checks, node, 3, 0, 3, "done");
        voted(checks, node, 3, 1, 2, Nodes.STATE);
        votesDue(checks, node, 3);
        voted(checks, node, 3, 1, 1, "done");
        votesDue(checks, node, 4);
        voted(checks, node, 3, 2, 1, Nodes.STATE);
        voted(checks, node, 3, 0, 1, Nodes.STATE);
        votesDue(checks, node, 4);
    }

    /** Added to what is there, so many would be below 0 in an int. */
    static void p17_nThatWouldWrapAround(Checks checks) {
        SnowNode node = begun(4);
        node.votes(3, 0, 1);
        for (int n : new int[] {Nodes.MAX, Nodes.MAX - 1, Nodes.MAX - 3}) {
            voted(checks, node, 3, 0, n, Nodes.STATE);
            voted(checks, node, 3, 1, n, Nodes.STATE);
        }
        votesDue(checks, node, 1);
    }

    // Which exception comes first

    static void p17_notBegunAndTooMany(Checks checks) {
        voted(checks, begun(4), 2, 0, 5, Nodes.ARGUMENT);
        voted(checks, begun(4), 8, 0, Nodes.MAX, Nodes.ARGUMENT);
    }

    static void p17_decidedAndTooMany(Checks checks) {
        SnowNode node = begun(4);
        Nodes.rounds(node, 3, 4, 1);
        voted(checks, node, 3, 1, 5, Nodes.ARGUMENT);
        voted(checks, node, 3, 1, Nodes.MAX, Nodes.ARGUMENT);
    }

    static void p17_noColourAndTooMany(Checks checks) {
        SnowNode node = begun(4);
        voted(checks, node, 3, 4, 5, Nodes.ARGUMENT);
        voted(checks, node, 3, -1, 5, Nodes.ARGUMENT);
        node.votes(3, 0, 4);
        voted(checks, node, 3, 4, 1, Nodes.ARGUMENT);
        voted(checks, node, 3, -1, 1, Nodes.ARGUMENT);
    }

    static void p17_noVotesWhenTheRoundIsFull(Checks checks) {
        SnowNode node = begun(4);
        node.votes(3, 0, 4);
        voted(checks, node, 3, 0, 0, Nodes.ARGUMENT);
        voted(checks, node, 3, 0, -1, Nodes.ARGUMENT);
        voted(checks, node, 3, 0, Nodes.MIN, Nodes.ARGUMENT);
        voted(checks, node, 3, 0, 1, Nodes.STATE);
    }

    // What is refused does not count

    static void p17_refusedVotesDoNotWin(Checks checks) {
        SnowNode node = begun(4);
        node.votes(3, 1, 3);
        voted(checks, node, 3, 1, 2, Nodes.STATE);
        voted(checks, node, 3, 1, 0, Nodes.ARGUMENT);
        voted(checks, node, 3, 4, 1, Nodes.ARGUMENT);
        checks.same("the round", false, node.round(3));
        votesDue(checks, node, 0);
    }

    static void p17_anotherChoiceHasItsOwnVotes(Checks checks) {
        SnowNode node = begun(4);
        node.begin(4, 0, 4);
        voted(checks, node, 3, 0, 4, "done");
        voted(checks, node, 4, 0, 4, "done");
        votesDue(checks, node, 4);
    }

    static void p17_fullRoundThenTheNext(Checks checks) {
        SnowNode node = begun(4);
        node.votes(3, 0, 2);
        node.votes(3, 1, 2);
        voted(checks, node, 3, 1, 1, Nodes.STATE);
        node.round(3);
        voted(checks, node, 3, 1, 4, "done");
    }

    static void p17_refusedChangesNothing(Checks checks) {
        Scene.refusedChangesNothing(checks, node -> {
            voted(checks, node, 2, 0, 1, Nodes.ARGUMENT);
            voted(checks, node, 8, 0, 1, Nodes.ARGUMENT);
            voted(checks, node, 1, 2, 1, Nodes.ARGUMENT);
            voted(checks, node, 0, 2, 1, Nodes.ARGUMENT);
            voted(checks, node, 0, 0, 0, Nodes.ARGUMENT);
            voted(checks, node, 0, 0, 2, Nodes.STATE);
            voted(checks, node, 7, 7, 3, Nodes.STATE);
            voted(checks, node, 7, 6, Nodes.MAX, Nodes.STATE);
        });
    }
}
