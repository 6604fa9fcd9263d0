/** Promise 1, case by case: what the constructor makes of arguments at the edges of their ranges. */
public final class Promise01Test {
    public static void main(String[] args) {
        Cases.run(Promise01Test.class);
    }

    private static final int MIN = Nodes.MIN;
    private static final int MAX = Nodes.MAX;

    // K

    static void p01_kBelow1Is4(Checks checks) {
        for (int k : new int[] {0, -1, -4, MIN}) {
            kDue(checks, k, 4);
        }
    }

    static void p01_kOf1(Checks checks) {
        kDue(checks, 1, 1);
        kDue(checks, 2, 2);
    }

    static void p01_kOf10(Checks checks) {
        kDue(checks, 9, 9);
        kDue(checks, 10, 10);
    }

    static void p01_kAbove10Is4(Checks checks) {
        for (int k : new int[] {11, 12, 20, MAX}) {
            kDue(checks, k, 4);
        }
    }

    private static void kDue(Checks checks, int k, int want) {
        checks.same("peers of a sample by k " + k, want, sampleSize(new SnowNode(5, k, want, 1, 1)));
        checks.same("votes of a round by k " + k, want, mostVotes(new SnowNode(5, k, want, 1, 1)));
    }

    private static int sampleSize(SnowNode node) {
        Nodes.spend(0, 1000000).take(node);
        int poll = node.poll();
        int size = 0;
        while (size < 30 && isNumber(node, poll, size)) {
            size++;
        }
        return size;
    }

    private static boolean isNumber(SnowNode node, int poll, int j) {
        return Checks.answerOf(() -> node.sampled(poll, j)) instanceof Integer;
    }

    private static int mostVotes(SnowNode node) {
        node.begin(0, 0, 2);
        int votes = 0;
        while (votes < 30 && Checks.answerOf(() -> Nodes.vote(node, 0, 0, 1)).equals("done")) {
            votes++;
        }
        return votes;
    }

    // ALPHA

    static void p01_alphaOfHalfOfAnEvenKIsTheLeast(Checks checks) {
        for (int k = 2; k <= 10; k += 2) {
            alphaDue(checks, k, k / 2, k / 2 + 1);
        }
    }

    static void p01_alphaBelowHalfOfAnOddKIsTheLeast(Checks checks) {
        for (int k = 1; k <= 9; k += 2) {
            alphaDue(checks, k, k / 2, k / 2 + 1);
        }
    }

    static void p01_alphaJustAboveHalfOfK(Checks checks) {
        for (int k = 1; k <= 10; k++) {
            alphaDue(checks, k, k / 2 + 1, k / 2 + 1);
        }
        alphaDue(checks, 10, 7, 7);
        alphaDue(checks, 5, 4, 4);
    }

    static void p01_alphaOfK(Checks checks) {
        for (int k = 1; k <= 10; k++) {
            alphaDue(checks, k, k, k);
        }
    }

    static void p01_alphaJustBelowK(Checks checks) {
        for (int k = 3; k <= 10; k++) {
            alphaDue(checks, k, k - 1, k - 1);
        }
    }

    static void p01_alphaAboveKIsTheLeast(Checks checks) {
        for (int k = 1; k <= 10; k++) {
            alphaDue(checks, k, k + 1, k / 2 + 1);
        }
        alphaDue(checks, 10, MAX, 6);
    }

    static void p01_alphaBelow1IsTheLeast(Checks checks) {
        for (int alpha : new int[] {0, -1, -6, MIN}) {
            alphaDue(checks, 1, alpha, 1);
            alphaDue(checks, 9, alpha, 5);
        }
    }

    /** A k that is no K is no measure for alpha. */
    static void p01_alphaIsMeasuredByTheKThatIsMade(Checks checks) {
        alphaDue(checks, 11, 4, 4);
        alphaDue(checks, 11, 3, 3);
        alphaDue(checks, 11, 6, 3);
        alphaDue(checks, 0, 4, 4);
        alphaDue(checks, 0, 5, 3);
        alphaDue(checks, 0, 1, 3);
    }

    private static void alphaDue(Checks checks, int k, int alpha, int want) {
        String name = " by k " + k + " and alpha " + alpha;
        int size = k >= 1 && k <= 10 ? k : 4;
        checks.same("yes that win a poll" + name, want, answersNeeded(new SnowNode(5, k, alpha, 1, 1), true));
        checks.same("no that lose a poll" + name, size - want + 1,
                answersNeeded(new SnowNode(5, k, alpha, 1, 1), false));
        checks.same("votes that win a round" + name, want, votesNeeded(new SnowNode(5, k, alpha, 1, 1), size));
    }

    private static int answersNeeded(SnowNode node, boolean yes) {
        Nodes.spend(0, 1000000).take(node);
        int poll = node.poll();
        for (int j = 0; isNumber(node, poll, j); j++) {
            if (node.answer(poll, node.sampled(poll, j), yes) != 0) {
                return j + 1;
            }
        }
        return -1;
    }

    private static int votesNeeded(SnowNode node, int size) {
        for (int votes = 1; votes <= size; votes++) {
            node.begin(0, 0, 2);
            node.votes(0, 1, votes);
            if (node.round(0)) {
                return votes;
            }
        }
        return -1;
    }

    // BETA1 and BETA2

    static void p01_betaOneBelow1Is3(Checks checks) {
        for (int betaOne : new int[] {0, -1, MIN}) {
            betasDue(checks, betaOne, 9, 3, 9);
        }
    }

    static void p01_betaOneOf1(Checks checks) {
        betasDue(checks, 1, 9, 1, 9);
        betasDue(checks, 2, 9, 2, 9);
    }

    static void p01_betaOneOf20(Checks checks) {
        betasDue(checks, 19, 25, 19, 25);
        betasDue(checks, 20, 25, 20, 25);
    }

    static void p01_betaOneAbove20Is3(Checks checks) {
        for (int betaOne : new int[] {21, 22, MAX}) {
            betasDue(checks, betaOne, 25, 3, 25);
        }
    }

    static void p01_betaTwoBelowBetaOneIs4More(Checks checks) {
        betasDue(checks, 5, 4, 5, 9);
        betasDue(checks, 1, 0, 1, 5);
        betasDue(checks, 20, 19, 20, 24);
        betasDue(checks, 2, -1, 2, 6);
        betasDue(checks, 2, MIN, 2, 6);
    }

    static void p01_betaTwoOfBetaOne(Checks checks) {
        betasDue(checks, 1, 1, 1, 1);
        betasDue(checks, 5, 5, 5, 5);
        betasDue(checks, 5, 6, 5, 6);
        betasDue(checks, 20, 20, 20, 20);
    }

    static void p01_betaTwoOf40(Checks checks) {
        betasDue(checks, 1, 39, 1, 39);
        betasDue(checks, 1, 40, 1, 40);
        betasDue(checks, 20, 40, 20, 40);
    }

    static void p01_betaTwoAbove40Is4More(Checks checks) {
        betasDue(checks, 1, 41, 1, 5);
        betasDue(checks, 20, 41, 20, 24);
        betasDue(checks, 7, MAX, 7, 11);
    }

    /** A betaOne that is no BETA1 is no measure for betaTwo. */
    static void p01_betaTwoIsMeasuredByTheBetaOneThatIsMade(Checks checks) {
        betasDue(checks, 21, 2, 3, 7);
        betasDue(checks, 21, 3, 3, 3);
        betasDue(checks, 21, 4, 3, 4);
        betasDue(checks, 0, 2, 3, 7);
        betasDue(checks, 0, 0, 3, 7);
        betasDue(checks, MAX, 41, 3, 7);
    }

    private static void betasDue(Checks checks, int betaOne, int betaTwo, int wantOne, int wantTwo) {
        String name = " by betaOne " + betaOne + " and betaTwo " + betaTwo;
        checks.same("rounds by rule 1" + name, wantOne, roundsNeeded(Nodes.quick(betaOne, betaTwo), 1));
        checks.same("rounds by rule 0" + name, wantTwo, roundsNeeded(Nodes.quick(betaOne, betaTwo), 0));
        checks.same("rounds by rule 2" + name, wantTwo, roundsNeeded(Nodes.quick(betaOne, betaTwo), 2));
        checks.same("polls for one alone" + name, wantOne, pollsNeeded(Nodes.quick(betaOne, betaTwo), false));
        checks.same("polls for one of two" + name, wantTwo, pollsNeeded(Nodes.quick(betaOne, betaTwo), true));
    }

    private static int roundsNeeded(SnowNode node, int rule) {
        node.begin(0, rule, 2);
        int rounds = 0;
        while (rounds < 60 && node.state(0, 2) == 0) {
            node.votes(0, 1, 1);
            node.round(0);
            rounds++;
        }
        return rounds;
    }

    /** Polls about one and those under it, in a chain, speak for the first one. */
    private static int pollsNeeded(SnowNode node, boolean withRival) {
        Row first = Nodes.spend(0, 1000000);
        first.take(node);
        int poll = node.poll();
        if (withRival) {
            Nodes.spend(0, 999999, 1).take(node);
            node.poll();
        }
        Nodes.say(node, poll, true);
        int polls = 1;
        Row last = first;
        while (polls < 50 && node.look(first.id(), 0) != Nodes.ACCEPTED) {
            last = Row.under(last.id()).spends(last.id(), 0).pays(1000000);
            Nodes.win(node, last);
            polls++;
        }
        return polls;
    }

    // The seed, and what is there at first

    static void p01_generatorIsTheSeed(Checks checks) {
        for (int seed : new int[] {0, 1, -1, 2, MAX, MIN, MAX - 1, MIN + 1}) {
            SnowNode node = new SnowNode(seed, 10, 10, 1, 1);
            Nodes.spend(0, 1000000).take(node);
            Draw.same(checks, node, node.poll(), new Draw(seed).sample(10));
        }
    }

    static void p01_nothingIsThereButTheGenesis(Checks checks) {
        SnowNode node = new SnowNode(0, 4, 3, 3, 7);
        int[] counts = {1, 0, 1, 1, 0, 0, 0, 0, 0, 0, 8000000};
        for (int what = 0; what < counts.length; what++) {
            checks.same("count(" + what + ")", counts[what], node.count(what));
        }
        int[] looks = {3, 0, 0, 1, 0, 0, 0, 0, 8, 0};
        for (int what = 0; what < looks.length; what++) {
            checks.same("look(0, " + what + ")", looks[what], node.look(0, what));
        }
        checks.same("query(0)", 1, node.query(0));
        Nodes.list(checks, node, 0, 0);
        Nodes.list(checks, node, 1, 0);
        Nodes.list(checks, node, 2);
    }

    static void p01_genesisHasEightOutputs(Checks checks) {
        SnowNode node = new SnowNode(0, 4, 3, 3, 7);
        for (int index = 0; index < 8; index++) {
            checks.same("unspent(0, " + index + ")", 1000000, node.unspent(0, index));
            Nodes.set(checks, node, 0, index, 0, null, null, 0);
            checks.same("set(0, " + index + ", 4)", Nodes.NONE, node.set(0, index, 4));
        }
        checks.same("unspent(0, 8)", 0, node.unspent(0, 8));
    }

    static void p01_noChoiceIsBegun(Checks checks) {
        SnowNode node = new SnowNode(0, 4, 3, 3, 7);
        for (int choice = 0; choice < 8; choice++) {
            for (int what = 0; what < 12; what++) {
                checks.same("state(" + choice + ", " + what + ")", Nodes.NONE, node.state(choice, what));
            }
        }
    }
}
