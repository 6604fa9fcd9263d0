/** Promise 8, what a poll does that is won or lost, case by case: favourites, runs, acceptance, rejection. */
public final class Promise08ClosedTest {
    public static void main(String[] args) {
        Cases.run(Promise08ClosedTest.class);
    }

    private static final int HELD = Nodes.HELD;
    private static final int ACCEPTED = Nodes.ACCEPTED;
    private static final int REJECTED = Nodes.REJECTED;
    private static final Row FIRST = Nodes.spend(0, 250000, 250000, 250000, 250000);
    private static final Row SECOND = Nodes.spend(0, 500000, 500000);

    /** A child that spends a part of FIRST or SECOND: a poll about it speaks for its parent. */
    private static Row under(Row parent, int index) {
        return Row.under(parent.id()).spends(parent.id(), index).pays(parent == FIRST ? 250000 : 500000);
    }

    /** Both are held and had their polls, which are open still. */
    private static SnowNode rivals(int betaOne, int betaTwo) {
        SnowNode node = Nodes.quick(betaOne, betaTwo);
        Nodes.takeAll(node, FIRST, SECOND);
        node.poll();
        node.poll();
        return node;
    }

    // The chit and the confidence

    static void p08_wonGivesAChit(Checks checks) {
        SnowNode node = rivals(9, 9);
        checks.same("chit before", 0, node.look(FIRST.id(), 2));
        Nodes.say(node, 0, true);
        checks.same("chit behind", 1, node.look(FIRST.id(), 2));
        checks.same("confidence", 1, node.look(FIRST.id(), 1));
        checks.same("confidence of the genesis", 1, node.look(0, 1));
        checks.same("chit of the genesis", 0, node.look(0, 2));
        checks.same("confidence of the rival", 0, node.look(SECOND.id(), 1));
    }

    static void p08_lostGivesNoChit(Checks checks) {
        SnowNode node = rivals(9, 9);
        Nodes.say(node, 0, false);
        checks.same("chit", 0, node.look(FIRST.id(), 2));
        checks.same("confidence", 0, node.look(FIRST.id(), 1));
        checks.same("confidence of the genesis", 0, node.look(0, 1));
    }

    // The favourite

    static void p08_asMuchConfidenceKeepsTheFavourite(Checks checks) {
        SnowNode node = rivals(9, 9);
        Nodes.say(node, 0, true);
        Nodes.say(node, 1, true);
        Nodes.set(checks, node, 0, 0, 2, FIRST, SECOND, 1);
    }

    static void p08_moreConfidenceChangesTheFavourite(Checks checks) {
        SnowNode node = rivals(9, 9);
        Nodes.say(node, 1, true);
        Nodes.set(checks, node, 0, 0, 2, SECOND, SECOND, 1);
        Nodes.say(node, 0, true);
        Nodes.set(checks, node, 0, 0, 2, SECOND, FIRST, 1);
        Nodes.win(node, under(FIRST, 0));
        Nodes.set(checks, node, 0, 0, 2, FIRST, FIRST, 2);
    }

    static void p08_lessConfidenceKeepsTheFavourite(Checks checks) {
        SnowNode node = rivals(9, 9);
        Nodes.say(node, 0, true);
        Nodes.win(node, under(FIRST, 0));
        Nodes.say(node, 1, true);
        Nodes.set(checks, node, 0, 0, 2, FIRST, SECOND, 1);
    }

    /** Its confidence is not compared where there is no favourite. */
    static void p08_noFavouriteAndOneBecomesIt(Checks checks) {
        SnowNode node = Nodes.quick(1, 2);
        Nodes.win(node, Nodes.spend(0, 1000000));
        Row gone = Row.under(0).spends(0, 0, 0, 1).pays(2000000);
        Row next = Nodes.spend(1, 1000000);
        Nodes.takeAll(node, gone, next);
        Nodes.set(checks, node, 0, 1, 2, null, gone, 0);
        Nodes.say(node, node.poll(), true);
        Nodes.set(checks, node, 0, 1, 2, next, next, 1);
    }

    /** Without favourite it stays so when the poll is lost. */
    static void p08_noFavouriteBehindALostPoll(Checks checks) {
        SnowNode node = Nodes.quick(1, 2);
        Nodes.win(node, Nodes.spend(0, 1000000));
        Row gone = Row.under(0).spends(0, 0, 0, 1).pays(2000000);
        Nodes.takeAll(node, gone, Nodes.spend(1, 1000000));
        Nodes.say(node, node.poll(), false);
        Nodes.set(checks, node, 0, 1, 2, null, gone, 0);
    }

    // The run

    static void p08_runOfTheLatestIsOneMore(Checks checks) {
        SnowNode node = rivals(9, 9);
        Nodes.set(checks, node, 0, 0, 2, FIRST, FIRST, 0);
        Nodes.say(node, 0, true);
        Nodes.set(checks, node, 0, 0, 2, FIRST, FIRST, 1);
        Nodes.win(node, under(FIRST, 0));
        Nodes.set(checks, node, 0, 0, 2, FIRST, FIRST, 2);
    }

    static void p08_runOfAnotherOneIs1(Checks checks) {
        SnowNode node = rivals(9, 9);
        Nodes.say(node, 0, true);
        Nodes.win(node, under(FIRST, 0));
        Nodes.say(node, 1, true);
        Nodes.set(checks, node, 0, 0, 2, FIRST, SECOND, 1);
        Nodes.win(node, under(FIRST, 1));
        Nodes.set(checks, node, 0, 0, 2, FIRST, FIRST, 1);
    }

    static void p08_lostMakesTheRuns0(Checks checks) {
        SnowNode node = rivals(9, 9);
        Row beside = Nodes.spend(1, 1000000);
        Row child = under(FIRST, 0);
        Nodes.say(node, 0, true);
        Nodes.win(node, beside, child);
        Nodes.set(checks, node, 0, 0, 2, FIRST, FIRST, 2);
        Nodes.set(checks, node, FIRST.id(), 0, 1, child, child, 1);
        Row last = Row.under(child.id()).spends(child.id(), 0).pays(250000);
        Nodes.lose(node, last);
        Nodes.set(checks, node, 0, 0, 2, FIRST, FIRST, 0);
        Nodes.set(checks, node, FIRST.id(), 0, 1, child, child, 0);
        Nodes.set(checks, node, child.id(), 0, 1, last, last, 0);
        Nodes.set(checks, node, 0, 1, 1, beside, beside, 1);
        checks.same("confidence stays", 2, node.look(FIRST.id(), 1));
        Nodes.win(node, under(FIRST, 1));
        Nodes.set(checks, node, 0, 0, 2, FIRST, FIRST, 1);
    }

    /** A lost poll about one takes the run from its rival, which is the latest, too. */
    static void p08_lostTakesTheRivalsRun(Checks checks) {
        SnowNode node = rivals(9, 9);
        Nodes.say(node, 0, true);
        Nodes.say(node, 1, false);
        Nodes.set(checks, node, 0, 0, 2, FIRST, FIRST, 0);
    }

    /** Of two ancestors in one set the one held last is the latest. */
    static void p08_ancestorsInTheOrderOfHolding(Checks checks) {
        SnowNode node = rivals(9, 9);
        Row both = Row.under(SECOND.id(), FIRST.id()).spends(SECOND.id(), 0, FIRST.id(), 0).pays(750000);
        Nodes.win(node, both);
        Nodes.set(checks, node, 0, 0, 2, FIRST, SECOND, 1);
        Nodes.set(checks, node, SECOND.id(), 0, 1, both, both, 1);
        Nodes.set(checks, node, FIRST.id(), 0, 1, both, both, 1);
    }

    /** Those under it have no part in its poll. */
    static void p08_childrenOfItAreLeftAlone(Checks checks) {
        SnowNode node = rivals(9, 9);
        Row child = under(FIRST, 0);
        Nodes.win(node, child);
        Nodes.set(checks, node, FIRST.id(), 0, 1, child, child, 1);
        Nodes.say(node, 0, true);
        Nodes.set(checks, node, FIRST.id(), 0, 1, child, child, 1);
        Nodes.set(checks, node, 0, 0, 2, FIRST, FIRST, 2);
        Nodes.say(node, 1, false);
        Nodes.set(checks, node, FIRST.id(), 0, 1, child, child, 1);
    }

    // When one is accepted

    static void p08_acceptedAloneByBetaOne(Checks checks) {
        SnowNode node = Nodes.quick(3, 5);
        Nodes.win(node, FIRST);
        Nodes.state(checks, node, "it with a run of 1", HELD, FIRST);
        Nodes.win(node, under(FIRST, 0));
        Nodes.state(checks, node, "it with a run of 2", HELD, FIRST);
        Nodes.win(node, under(FIRST, 1));
        Nodes.state(checks, node, "it with a run of 3", ACCEPTED, FIRST);
        checks.same("set(0, 0, 4)", FIRST.id(), node.set(0, 0, 4));
    }

    static void p08_acceptedAmongOthersByBetaTwo(Checks checks) {
        SnowNode node = rivals(3, 5);
        Nodes.say(node, 0, true);
        for (int i = 0; i < 3; i++) {
            Nodes.win(node, under(FIRST, i));
            Nodes.state(checks, node, "it with a run of " + (i + 2), HELD, FIRST);
        }
        Nodes.win(node, under(FIRST, 3));
        Nodes.state(checks, node, "it with a run of 5", ACCEPTED, FIRST);
        Nodes.state(checks, node, "the other one", REJECTED, SECOND);
    }

    /** With both the same the set makes no difference. */
    static void p08_betasTheSame(Checks checks) {
        SnowNode node = rivals(2, 2);
        Nodes.say(node, 0, true);
        Nodes.state(checks, node, "it with a run of 1", HELD, FIRST);
        Nodes.win(node, under(FIRST, 0));
        Nodes.state(checks, node, "it with a run of 2", ACCEPTED, FIRST);
    }

    static void p08_rejectedOnesCountAsOthers(Checks checks) {
        SnowNode node = Nodes.quick(1, 3);
        Nodes.win(node, Nodes.spend(0, 1000000));
        Row gone = Row.under(0).spends(0, 0, 0, 1).pays(2000000);
        Row next = Nodes.spend(1, 1000000);
        Row child = Row.under(next.id()).spends(next.id(), 0).pays(1000000);
        gone.take(node);
        Nodes.state(checks, node, "the other one", REJECTED, gone);
        Nodes.win(node, next);
        Nodes.state(checks, node, "it with a run of 1", HELD, next);
        Nodes.win(node, child);
        Nodes.state(checks, node, "it with a run of 2", HELD, next);
        Nodes.win(node, Row.under(child.id()).spends(child.id(), 0).pays(1000000));
        Nodes.state(checks, node, "it with a run of 3", ACCEPTED, next);
    }

    /** One that joins late makes the run that was nearly long enough too short. */
    static void p08_otherOneJoinsBeforeTheLastPoll(Checks checks) {
        SnowNode node = Nodes.quick(2, 3);
        Nodes.win(node, FIRST);
        SECOND.take(node);
        node.poll();
        Nodes.win(node, under(FIRST, 0));
        Nodes.state(checks, node, "it with a run of 2", HELD, FIRST);
        Nodes.win(node, under(FIRST, 1));
        Nodes.state(checks, node, "it with a run of 3", ACCEPTED, FIRST);
    }

    /** Each of its sets is measured by itself. */
    static void p08_oneOfTwoSetsHasOthers(Checks checks) {
        for (int place = 0; place < 2; place++) {
            SnowNode node = Nodes.quick(1, 2);
            Row two = Row.under(0).spends(0, place, 0, 1 - place).pays(1000000, 1000000);
            Nodes.takeAll(node, two, Nodes.spend(1, 1000000));
            Nodes.say(node, node.poll(), true);
            Nodes.state(checks, node, "it with runs of 1", HELD, two);
            node.poll();
            Nodes.win(node, Row.under(two.id()).spends(two.id(), 0).pays(1000000));
            Nodes.state(checks, node, "it with runs of 2", ACCEPTED, two);
        }
    }

    static void p08_parentIsNotAcceptedYet(Checks checks) {
        for (int place = 0; place < 2; place++) {
            SnowNode node = rivals(1, 3);
            Row quick = Nodes.spend(1, 1000000);
            Nodes.win(node, quick);
            Nodes.state(checks, node, "the quick parent", ACCEPTED, quick);
            Row child = place == 0 ? Nodes.beside(2, FIRST.id(), quick.id()) : Nodes.beside(2, quick.id(), FIRST.id());
            Nodes.win(node, child);
            Nodes.set(checks, node, 0, 2, 1, child, child, 1);
            Nodes.state(checks, node, "the child", HELD, child);
            Nodes.win(node, under(FIRST, 0));
            Nodes.state(checks, node, "the slow parent with a run of 2", HELD, FIRST);
            Nodes.win(node, under(FIRST, 1));
            Nodes.state(checks, node, "the slow parent with a run of 3", ACCEPTED, FIRST);
            Nodes.state(checks, node, "the child, gone over behind it", ACCEPTED, child);
        }
    }

    /** The latest with a run that is long enough, but the other one is the favourite. */
    static void p08_latestThatIsNotLiked(Checks checks) {
        SnowNode node = rivals(1, 2);
        Nodes.say(node, 0, true);
        Nodes.lose(node, under(FIRST, 0));
        Nodes.win(node, under(FIRST, 1));
        Nodes.set(checks, node, 0, 0, 2, FIRST, FIRST, 1);
        Nodes.say(node, 1, true);
        Nodes.win(node, under(SECOND, 0));
        Nodes.set(checks, node, 0, 0, 2, FIRST, SECOND, 2);
        Nodes.state(checks, node, "the favourite, not the latest", HELD, FIRST);
        Nodes.state(checks, node, "the latest, not the favourite", HELD, SECOND);
        Nodes.win(node, under(SECOND, 1));
        Nodes.state(checks, node, "both of it", ACCEPTED, SECOND);
        Nodes.state(checks, node, "the other one", REJECTED, FIRST);
    }

    /** A chit is not needed: those under it may speak for it. */
    static void p08_acceptedWithoutAChit(Checks checks) {
        SnowNode node = Nodes.quick(1, 2);
        FIRST.take(node);
        node.poll();
        Nodes.win(node, under(FIRST, 0));
        Nodes.state(checks, node, "it", ACCEPTED, FIRST);
        checks.same("its chit", 0, node.look(FIRST.id(), 2));
    }

    // What is rejected by that

    static void p08_othersAndAllUnderThemAreRejected(Checks checks) {
        SnowNode node = Nodes.quick(1, 1);
        Row winner = Row.under(0).spends(0, 0, 0, 1).pays(2000000);
        Row inFirst = Nodes.spend(0, 1000000);
        Row inSecond = Nodes.spend(1, 1000000);
        Row child = Nodes.beside(2, 0, inSecond.id());
        Row grandchild = Nodes.beside(3, child.id());
        Row free = Nodes.spend(4, 1000000);
        Row ofWinner = Nodes.beside(5, winner.id());
        Nodes.takeAll(node, winner, inFirst, inSecond, child, grandchild, free, ofWinner);
        Nodes.say(node, node.poll(), true);
        for (Row row : new Row[] {inFirst, inSecond, child, grandchild}) {
            Nodes.state(checks, node, "one that goes", REJECTED, row);
        }
        Nodes.state(checks, node, "one beside them", HELD, free);
        Nodes.state(checks, node, "one under the winner", HELD, ofWinner);
        checks.same("count(4)", 4, node.count(4));
        Nodes.set(checks, node, 0, 2, 1, null, child, 0);
        Nodes.set(checks, node, 0, 3, 1, null, grandchild, 0);
        Nodes.set(checks, node, 0, 0, 2, winner, winner, 1);
    }

    /** Others held before the one that is accepted go, too. */
    static void p08_othersHeldBeforeItAreRejected(Checks checks) {
        SnowNode node = rivals(1, 1);
        Row child = under(FIRST, 0);
        child.take(node);
        Nodes.say(node, 1, true);
        Nodes.state(checks, node, "the second one", ACCEPTED, SECOND);
        Nodes.state(checks, node, "the first one", REJECTED, FIRST);
        Nodes.state(checks, node, "its child", REJECTED, child);
    }

    /** Of those left the one with the most confidence, though it is not the first one. */
    static void p08_favouriteBehindARejectionIsTheMostConfident(Checks checks) {
        favouriteIsReplaced(checks, 1, false, true, true);
        favouriteIsReplaced(checks, 2, false, false, true);
    }

    static void p08_favouriteBehindARejectionIsTheFirstOfSeveral(Checks checks) {
        favouriteIsReplaced(checks, 0, false, false, false);
        favouriteIsReplaced(checks, 0, true, true, true);
    }

    /** The favourite of a set is rejected; three others, with chits or not, are in the set. */
    private static void favouriteIsReplaced(Checks checks, int next, boolean... won) {
        SnowNode node = Nodes.quick(1, 2);
        Row winner = Nodes.spend(0, 999999, 1);
        Row gone = Row.under(0).spends(0, 0, 0, 1).pays(2000000);
        Row[] others = {Nodes.spend(1, 1000000), Nodes.spend(1, 999999, 1), Nodes.spend(1, 999998, 2)};
        Nodes.takeAll(node, gone, winner, others[0], others[1], others[2]);
        for (int i = 0; i < 5; i++) {
            node.poll();
        }
        Nodes.say(node, 0, true);
        Row latest = gone;
        for (int i = 0; i < 3; i++) {
            Nodes.say(node, 2 + i, won[i]);
            latest = won[i] ? others[i] : latest;
        }
        Nodes.set(checks, node, 0, 1, 4, gone, latest, won[2] ? 1 : 0);
        Nodes.say(node, 1, true);
        Nodes.win(node, Row.under(winner.id()).spends(winner.id(), 1).pays(1));
        Nodes.state(checks, node, "the old favourite", REJECTED, gone);
        Nodes.set(checks, node, 0, 1, 4, others[next], latest, 0);
        checks.same("it is liked", 1, node.look(others[next].id(), 3));
    }

    /** The favourite that is rejected had not been the first one of its set. */
    static void p08_favouriteBehindARejectionMayBeTheFirstThatJoined(Checks checks) {
        SnowNode node = Nodes.quick(1, 2);
        Row first = Nodes.spend(1, 1000000);
        Row gone = Row.under(0).spends(0, 1, 0, 0).pays(2000000);
        Row third = Nodes.spend(1, 999999, 1);
        Row winner = Nodes.spend(0, 999999, 1);
        Nodes.takeAll(node, first, gone, third, winner);
        for (int i = 0; i < 4; i++) {
            node.poll();
        }
        Nodes.say(node, 1, true);
        Nodes.set(checks, node, 0, 1, 3, gone, gone, 1);
        Nodes.say(node, 3, true);
        Nodes.win(node, Row.under(winner.id()).spends(winner.id(), 1).pays(1));
        Nodes.state(checks, node, "the old favourite", REJECTED, gone);
        Nodes.set(checks, node, 0, 1, 3, first, gone, 0);
    }

    /** One that is rejected and was not the favourite leaves favourite and run. */
    static void p08_rejectedOneThatWasNoFavourite(Checks checks) {
        SnowNode node = Nodes.quick(1, 3);
        Row stays = Nodes.spend(1, 1000000);
        Row winner = Nodes.spend(0, 1000000);
        Row gone = Row.under(0).spends(0, 0, 0, 1).pays(2000000);
        Row child = Row.under(winner.id()).spends(winner.id(), 0).pays(1000000);
        Nodes.takeAll(node, stays, winner, gone);
        node.poll();
        node.poll();
        node.poll();
        Nodes.say(node, 0, true);
        Nodes.say(node, 1, true);
        Nodes.win(node, child);
        Nodes.win(node, Row.under(child.id()).spends(child.id(), 0).pays(1000000));
        Nodes.state(checks, node, "the winner", ACCEPTED, winner);
        Nodes.state(checks, node, "the one that goes", REJECTED, gone);
        Nodes.set(checks, node, 0, 1, 2, stays, stays, 1);
    }

    // Polls about those that are accepted or rejected already

    /** Two rivals, and the first one is accepted while the poll about the second one is open. */
    private static SnowNode withALoser() {
        SnowNode node = rivals(1, 1);
        Nodes.say(node, 0, true);
        return node;
    }

    static void p08_wonAboutARejectedOneIsWonOnly(Checks checks) {
        SnowNode node = withALoser();
        Nodes.state(checks, node, "the loser", REJECTED, SECOND);
        checks.same("the answer", 1, Nodes.say(node, 1, true));
        checks.same("count(8)", 2, node.count(8));
        checks.same("count(6)", 0, node.count(6));
        Nodes.state(checks, node, "the loser, for good", REJECTED, SECOND);
        checks.same("its chit", 0, node.look(SECOND.id(), 2));
        checks.same("its confidence", 0, node.look(SECOND.id(), 1));
        checks.same("confidence of the genesis", 1, node.look(0, 1));
        Nodes.set(checks, node, 0, 0, 2, FIRST, FIRST, 1);
    }

    static void p08_lostAboutARejectedOneIsLostOnly(Checks checks) {
        SnowNode node = withALoser();
        checks.same("the answer", 2, Nodes.say(node, 1, false));
        checks.same("count(8)", 1, node.count(8));
        checks.same("count(6)", 0, node.count(6));
        Nodes.set(checks, node, 0, 0, 2, FIRST, FIRST, 1);
    }

    /** Accepted by those under it while its own poll is open. */
    private static SnowNode acceptedWithAnOpenPoll() {
        SnowNode node = Nodes.quick(1, 2);
        FIRST.take(node);
        node.poll();
        Nodes.win(node, under(FIRST, 0));
        return node;
    }

    static void p08_wonAboutAnAcceptedOne(Checks checks) {
        SnowNode node = acceptedWithAnOpenPoll();
        Nodes.state(checks, node, "it", ACCEPTED, FIRST);
        Nodes.say(node, 0, true);
        checks.same("its chit", 1, node.look(FIRST.id(), 2));
        checks.same("its confidence", 2, node.look(FIRST.id(), 1));
        Nodes.set(checks, node, 0, 0, 1, FIRST, FIRST, 2);
        Nodes.list(checks, node, 1, 0, FIRST.id(), under(FIRST, 0).id());
    }

    static void p08_lostAboutAnAcceptedOne(Checks checks) {
        SnowNode node = acceptedWithAnOpenPoll();
        Nodes.say(node, 0, false);
        Nodes.state(checks, node, "it", ACCEPTED, FIRST);
        Nodes.set(checks, node, 0, 0, 1, FIRST, FIRST, 0);
        checks.same("set(0, 0, 4)", FIRST.id(), node.set(0, 0, 4));
    }
}
