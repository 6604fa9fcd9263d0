/** Promises 8, 9, 11, 13, 14 and 20: how polls end, and what is accepted and rejected by that. */
public final class PollTest {
    private static final Checks CHECKS = new Checks();
    private static final Class<?> ARGUMENT = IllegalArgumentException.class;
    private static final Class<?> STATE = IllegalStateException.class;
    private static final int HELD = 2;
    private static final int ACCEPTED = 3;
    private static final int REJECTED = 4;

    public static void main(String[] args) {
        answers();
        wonAndLost();
        expiring();
        acceptedAlone();
        acceptedAmongRivals();
        favouriteByConfidence();
        lostRuns();
        rejectedTogether();
        favouriteBehindRejection();
        favouriteGoesBackToTheFirst();
        parentsFirst();
        likedOnly();
        rejectedWhenHeld();
        firstOfASetRejected();
        pollAboutARejectedOne();
        conflictingAncestorsAlternate();
        acceptedByChildren();
        counts();
        CHECKS.finish("PollTest");
    }

    /** K 1, ALPHA 1: one answer ends a poll. */
    private static SnowNode fresh(int betaOne, int betaTwo) {
        return new SnowNode(3, 1, 1, betaOne, betaTwo);
    }

    private static Row spendOf(int output, int... amounts) {
        return Row.under(0).spends(0, output).pays(amounts);
    }

    private static void say(SnowNode node, int poll, boolean yes) {
        CHECKS.due("answer " + yes + " ends poll " + poll, yes ? 1 : 2,
                () -> node.answer(poll, node.sampled(poll, 0), yes));
    }

    /** Takes the row, makes a poll that must be about it, and ends that. */
    private static void polled(SnowNode node, Row row, boolean yes) {
        row.take(node);
        int poll = node.poll();
        CHECKS.same("the poll is about it", row.id(), node.sampled(poll, -1));
        say(node, poll, yes);
    }

    private static void stateDue(SnowNode node, String name, Row row, int state) {
        CHECKS.same("the state of " + name, state, node.look(row.id(), 0));
    }

    private static int idOf(Row row) {
        return row == null ? -1 : row.id();
    }

    private static void setDue(SnowNode node, int id, int index, int joined, Row favourite, Row latest, int run) {
        String name = "set(" + id + ", " + index + ", ";
        CHECKS.same(name + "0)", joined, node.set(id, index, 0));
        CHECKS.same(name + "1)", idOf(favourite), node.set(id, index, 1));
        CHECKS.same(name + "2)", idOf(latest), node.set(id, index, 2));
        CHECKS.same(name + "3)", run, node.set(id, index, 3));
    }

    private static void answers() {
        SnowNode node = new SnowNode(3, 3, 2, 2, 3);
        CHECKS.due("answer before a poll", ARGUMENT, () -> node.answer(0, 0, true));
        spendOf(0, 1000000).take(node);
        spendOf(1, 1000000).take(node);
        node.poll();
        node.poll();
        int first = node.sampled(0, 0);
        int second = node.sampled(0, 1);
        int third = node.sampled(0, 2);
        for (int peer = -2; peer < 22; peer++) {
            int asked = peer;
            if (peer != first && peer != second && peer != third) {
                CHECKS.due("answer of peer " + peer, ARGUMENT, () -> node.answer(0, asked, true));
            }
        }
        for (int poll : new int[] {-1, 2, Integer.MAX_VALUE, Integer.MIN_VALUE}) {
            CHECKS.due("answer to poll " + poll, ARGUMENT, () -> node.answer(poll, first, true));
        }
        CHECKS.due("the first yes", 0, () -> node.answer(0, first, true));
        CHECKS.due("yes again", STATE, () -> node.answer(0, first, true));
        CHECKS.due("no behind yes", STATE, () -> node.answer(0, first, false));
        CHECKS.due("one no", 0, () -> node.answer(0, third, false));
        CHECKS.due("no again", STATE, () -> node.answer(0, third, false));
        CHECKS.due("the second yes", 1, () -> node.answer(0, second, true));
        CHECKS.due("an answer to a closed poll", ARGUMENT, () -> node.answer(0, first, true));
        CHECKS.same("polls open", 1, node.count(6));
        CHECKS.same("polls won", 1, node.count(8));
        CHECKS.due("a no to the other poll", 0, () -> node.answer(1, node.sampled(1, 1), false));
        CHECKS.due("another no", 2, () -> node.answer(1, node.sampled(1, 0), false));
        CHECKS.same("polls won", 1, node.count(8));
        CHECKS.same("polls open", 0, node.count(6));
        CHECKS.same("polls so far", 2, node.count(7));
    }

    private static void wonAndLost() {
        for (int k = 1; k <= 10; k++) {
            for (int alpha = k / 2 + 1; alpha <= k; alpha++) {
                SnowNode node = new SnowNode(5, k, alpha, 2, 3);
                spendOf(0, 1000000).take(node);
                spendOf(1, 1000000).take(node);
                node.poll();
                node.poll();
                ending(node, 0, k - alpha, alpha, true);
                ending(node, 1, alpha - 1, k - alpha + 1, false);
            }
        }
    }

    /** Some say the other thing first, then so many are needed to end the poll. */
    private static void ending(SnowNode node, int poll, int others, int needed, boolean yes) {
        for (int j = 0; j < others; j++) {
            int peer = node.sampled(poll, j);
            CHECKS.due("answer " + j, 0, () -> node.answer(poll, peer, !yes));
        }
        for (int j = others; j < others + needed; j++) {
            int peer = node.sampled(poll, j);
            boolean last = j == others + needed - 1;
            CHECKS.due("answer " + j, last ? yes ? 1 : 2 : 0, () -> node.answer(poll, peer, yes));
        }
    }

    private static void expiring() {
        SnowNode node = fresh(2, 3);
        for (int poll : new int[] {0, -1, Integer.MAX_VALUE, Integer.MIN_VALUE}) {
            CHECKS.same("expire(" + poll + ")", false, node.expire(poll));
        }
        Row a = spendOf(0, 1000000);
        polled(node, a, true);
        CHECKS.same("expire of a poll that was won", false, node.expire(0));
        setDue(node, 0, 0, 1, a, a, 1);
        Row b = Row.under(a.id()).spends(a.id(), 0).pays(1000000);
        b.take(node);
        node.poll();
        CHECKS.same("expire(1)", true, node.expire(1));
        CHECKS.same("expire(1) again", false, node.expire(1));
        setDue(node, 0, 0, 1, a, a, 0);
        setDue(node, a.id(), 0, 1, b, b, 0);
        CHECKS.same("an expired poll is not won", 1, node.count(8));
        CHECKS.same("no chit by it", 0, node.look(b.id(), 2));
    }

    private static void acceptedAlone() {
        SnowNode node = fresh(2, 3);
        Row a = spendOf(0, 600000, 400000);
        polled(node, a, true);
        stateDue(node, "a behind one poll", a, HELD);
        Row b = Row.under(a.id()).spends(a.id(), 0, 0, 1).pays(1600000);
        polled(node, b, true);
        stateDue(node, "a behind two polls", a, ACCEPTED);
        stateDue(node, "b behind one poll", b, HELD);
        CHECKS.same("accepted of the set", a.id(), node.set(0, 0, 4));
        CHECKS.same("accepted of b's set", -1, node.set(0, 1, 4));
        CHECKS.same("unspent(0, 0)", 0, node.unspent(0, 0));
        CHECKS.same("unspent(0, 1)", 1000000, node.unspent(0, 1));
        CHECKS.same("unspent(a, 0)", 600000, node.unspent(a.id(), 0));
        CHECKS.same("unspent(a, 1)", 400000, node.unspent(a.id(), 1));
        CHECKS.same("unspent(b, 0)", 0, node.unspent(b.id(), 0));
        for (int index : new int[] {2, -1, Integer.MAX_VALUE, Integer.MIN_VALUE}) {
            CHECKS.same("unspent(a, " + index + ")", 0, node.unspent(a.id(), index));
        }
        CHECKS.same("unspent of an unknown one", 0, node.unspent(4711, 0));
        polled(node, Row.under(b.id()).spends(0, 2).pays(1000000), true);
        stateDue(node, "b behind two polls", b, ACCEPTED);
        CHECKS.same("unspent(a, 0) when spent", 0, node.unspent(a.id(), 0));
        CHECKS.same("unspent(b, 0) when accepted", 1600000, node.unspent(b.id(), 0));
        int[] order = {0, a.id(), b.id(), -1};
        for (int i = 0; i < order.length; i++) {
            CHECKS.same("listed(1, " + i + ")", order[i], node.listed(1, i));
        }
        CHECKS.same("listed(1, -1)", -1, node.listed(1, -1));
        CHECKS.same("listed(1, max)", -1, node.listed(1, Integer.MAX_VALUE));
        CHECKS.same("all unspent", 8000000, node.count(10));
    }

    private static void acceptedAmongRivals() {
        SnowNode node = fresh(2, 3);
        Row a = spendOf(0, 600000, 400000);
        Row rival = spendOf(0, 1000000);
        polled(node, a, true);
        rival.take(node);
        node.poll();
        node.expire(1);
        setDue(node, 0, 0, 2, a, a, 0);
        for (int i = 1; i <= 3; i++) {
            stateDue(node, "a behind a run of " + (i - 1), a, HELD);
            polled(node, Row.under(a.id()).spends(0, i).pays(1000000), true);
            setDue(node, 0, 0, 2, a, a, i);
        }
        stateDue(node, "a behind a run of 3", a, ACCEPTED);
        stateDue(node, "the rival", rival, REJECTED);
    }

    private static void favouriteByConfidence() {
        SnowNode node = fresh(5, 5);
        Row a = spendOf(0, 600000, 400000);
        Row b = spendOf(0, 1000000);
        Row c = spendOf(0, 500000, 500000);
        polled(node, a, true);
        polled(node, b, true);
        setDue(node, 0, 0, 2, a, b, 1);
        polled(node, c, false);
        setDue(node, 0, 0, 3, a, b, 0);
        polled(node, Row.under(b.id()).spends(b.id(), 0).pays(1000000), true);
        setDue(node, 0, 0, 3, b, b, 1);
        CHECKS.same("query(a)", 0, node.query(a.id()));
        CHECKS.same("query(b)", 1, node.query(b.id()));
        polled(node, Row.under(a.id()).spends(a.id(), 0).pays(600000), true);
        setDue(node, 0, 0, 3, b, a, 1);
        polled(node, Row.under(a.id()).spends(a.id(), 1).pays(400000), true);
        setDue(node, 0, 0, 3, a, a, 2);
    }

    private static void lostRuns() {
        SnowNode node = fresh(9, 9);
        Row a = spendOf(0, 1000000);
        Row other = spendOf(1, 1000000);
        Row b = Row.under(a.id()).spends(a.id(), 0, 0, 2).pays(2000000);
        polled(node, a, true);
        polled(node, other, true);
        polled(node, b, true);
        setDue(node, 0, 0, 1, a, a, 2);
        setDue(node, 0, 1, 1, other, other, 1);
        setDue(node, 0, 2, 1, b, b, 1);
        polled(node, Row.under(b.id()).spends(0, 3).pays(1000000), false);
        setDue(node, 0, 0, 1, a, a, 0);
        setDue(node, 0, 1, 1, other, other, 1);
        setDue(node, 0, 2, 1, b, b, 0);
        setDue(node, a.id(), 0, 1, b, b, 0);
    }

    private static void rejectedTogether() {
        SnowNode node = fresh(1, 2);
        Row loser = Row.under(0).spends(0, 0, 0, 1).pays(2000000);
        Row child = Row.under(0, loser.id()).spends(0, 2).pays(1000000);
        Row grandchild = Row.under(child.id()).spends(child.id(), 0).pays(1000000);
        Row free = spendOf(3, 1000000);
        Row winner = spendOf(0, 600000, 400000);
        for (Row row : new Row[] {loser, child, grandchild, free, winner}) {
            row.take(node);
            node.poll();
        }
        say(node, 4, true);
        setDue(node, 0, 0, 2, winner, winner, 1);
        polled(node, Row.under(winner.id()).spends(winner.id(), 0).pays(600000), true);
        stateDue(node, "the winner", winner, ACCEPTED);
        stateDue(node, "the loser", loser, REJECTED);
        stateDue(node, "its child", child, REJECTED);
        stateDue(node, "its grandchild", grandchild, REJECTED);
        stateDue(node, "one beside them", free, HELD);
        setDue(node, 0, 1, 1, null, loser, 0);
        setDue(node, 0, 2, 1, null, child, 0);
        setDue(node, child.id(), 0, 1, null, grandchild, 0);
        CHECKS.same("rejected", 3, node.count(4));
        CHECKS.same("query of a rejected one", 0, node.query(loser.id()));
        CHECKS.same("unspent of a rejected one", 0, node.unspent(loser.id(), 0));
    }

    private static void favouriteBehindRejection() {
        SnowNode node = fresh(1, 2);
        Row loser = Row.under(0).spends(0, 0, 0, 1).pays(2000000);
        Row plain = spendOf(1, 1000000);
        Row better = spendOf(1, 999999, 1);
        Row asGood = spendOf(1, 999998, 2);
        Row winner = spendOf(0, 1000000);
        for (Row row : new Row[] {loser, plain, better, asGood, winner}) {
            row.take(node);
            node.poll();
        }
        say(node, 0, true);
        say(node, 3, true);
        say(node, 2, true);
        setDue(node, 0, 1, 4, loser, better, 1);
        say(node, 4, true);
        setDue(node, 0, 0, 2, loser, winner, 1);
        polled(node, Row.under(winner.id()).spends(winner.id(), 0).pays(1000000), true);
        stateDue(node, "the winner", winner, ACCEPTED);
        stateDue(node, "the loser", loser, REJECTED);
        setDue(node, 0, 1, 4, better, better, 0);
        CHECKS.same("a rejected one keeps its chit", 1, node.look(loser.id(), 2));
        CHECKS.same("the favourite is strong", 1, node.query(better.id()));
    }

    private static void favouriteGoesBackToTheFirst() {
        SnowNode node = fresh(1, 2);
        Row first = spendOf(1, 1000000);
        Row loser = Row.under(0).spends(0, 1, 0, 0).pays(2000000);
        Row second = spendOf(1, 999999, 1);
        Row winner = spendOf(0, 1000000);
        for (Row row : new Row[] {first, loser, second, winner}) {
            row.take(node);
            node.poll();
        }
        say(node, 1, true);
        say(node, 3, true);
        setDue(node, 0, 1, 3, loser, loser, 1);
        polled(node, Row.under(winner.id()).spends(winner.id(), 0).pays(1000000), true);
        stateDue(node, "the loser", loser, REJECTED);
        setDue(node, 0, 1, 3, first, loser, 0);
        CHECKS.same("the first is strong again", 1, node.query(first.id()));
    }

    /** A child whose own sets are ready waits for each of its parents. */
    private static void parentsFirst() {
        for (int place = 0; place < 2; place++) {
            SnowNode node = fresh(1, 3);
            Row slow = spendOf(0, 1000000);
            Row quick = spendOf(1, 1000000);
            slow.take(node);
            spendOf(0, 999999, 1).take(node);
            node.poll();
            node.poll();
            polled(node, quick, true);
            stateDue(node, "the quick parent", quick, ACCEPTED);
            int[] parents = place == 0 ? new int[] {slow.id(), quick.id()} : new int[] {quick.id(), slow.id()};
            Row child = Row.under(parents).spends(0, 2).pays(1000000);
            polled(node, child, true);
            setDue(node, 0, 2, 1, child, child, 1);
            stateDue(node, "the child of a held one", child, HELD);
            say(node, 0, true);
            stateDue(node, "the slow parent at a run of 2", slow, HELD);
            polled(node, Row.under(child.id()).spends(0, 3).pays(1000000), true);
            stateDue(node, "the slow parent at a run of 3", slow, ACCEPTED);
            stateDue(node, "the child with it", child, ACCEPTED);
            CHECKS.same("the parent is accepted first", slow.id(), node.listed(1, 2));
            CHECKS.same("the child is accepted next", child.id(), node.listed(1, 3));
        }
    }

    /** The latest with a run that is long enough is not accepted while another one is favourite. */
    private static void likedOnly() {
        SnowNode node = fresh(2, 2);
        Row a = spendOf(0, 250000, 250000, 250000, 250000);
        Row b = spendOf(0, 500000, 500000);
        a.take(node);
        b.take(node);
        node.poll();
        node.poll();
        say(node, 0, true);
        polled(node, Row.under(a.id()).spends(a.id(), 0).pays(250000), false);
        polled(node, Row.under(a.id()).spends(a.id(), 1).pays(250000), true);
        polled(node, Row.under(a.id()).spends(a.id(), 2).pays(250000), false);
        polled(node, Row.under(a.id()).spends(a.id(), 3).pays(250000), true);
        setDue(node, 0, 0, 2, a, a, 1);
        say(node, 1, true);
        polled(node, Row.under(b.id()).spends(b.id(), 0).pays(500000), true);
        setDue(node, 0, 0, 2, a, b, 2);
        stateDue(node, "b, not the favourite", b, HELD);
        polled(node, Row.under(b.id()).spends(b.id(), 1).pays(500000), true);
        setDue(node, 0, 0, 2, a, b, 3);
        stateDue(node, "b, as good as the favourite", b, HELD);
        polled(node, Row.under(b.id()).spends(0, 1).pays(1000000), true);
        setDue(node, 0, 0, 2, b, b, 4);
        stateDue(node, "b, the favourite", b, ACCEPTED);
        stateDue(node, "a", a, REJECTED);
    }

    private static void rejectedWhenHeld() {
        SnowNode node = fresh(1, 1);
        Row winner = spendOf(0, 1000000);
        polled(node, winner, true);
        stateDue(node, "the winner", winner, ACCEPTED);
        Row late = Row.under(0).spends(0, 0, 0, 1).pays(2000000);
        late.take(node);
        stateDue(node, "a late rival", late, REJECTED);
        setDue(node, 0, 0, 2, winner, winner, 1);
        setDue(node, 0, 1, 1, null, late, 0);
        Row child = Row.under(late.id(), winner.id()).spends(0, 2).pays(1000000);
        child.take(node);
        stateDue(node, "a child of a rejected one", child, REJECTED);
        CHECKS.due("poll() about none of them", java.util.NoSuchElementException.class, () -> node.poll());
        CHECKS.same("held", 4, node.count(2));
        CHECKS.same("rejected", 2, node.count(4));
    }

    /** Who joins behind a first one that was rejected is no favourite before a poll makes it one. */
    private static void firstOfASetRejected() {
        SnowNode node = fresh(1, 2);
        polled(node, spendOf(0, 1000000), true);
        Row late = Row.under(0).spends(0, 0, 0, 1).pays(2000000);
        late.take(node);
        Row next = spendOf(1, 1000000);
        next.take(node);
        stateDue(node, "the next one", next, HELD);
        setDue(node, 0, 1, 2, null, late, 0);
        CHECKS.same("it is not liked", 0, node.look(next.id(), 3));
        int poll = node.poll();
        say(node, poll, true);
        setDue(node, 0, 1, 2, next, next, 1);
        stateDue(node, "the next one, rejected ones count", next, HELD);
        polled(node, Row.under(next.id()).spends(next.id(), 0).pays(1000000), true);
        stateDue(node, "the next one behind a run of 2", next, ACCEPTED);
    }

    private static void pollAboutARejectedOne() {
        SnowNode node = fresh(1, 1);
        Row loser = Row.under(0).spends(0, 0, 0, 1).pays(2000000);
        Row winner = spendOf(0, 1000000);
        Row third = spendOf(1, 1000000);
        Row lost = spendOf(1, 999999, 1);
        for (Row row : new Row[] {winner, loser, third, lost}) {
            row.take(node);
            node.poll();
        }
        say(node, 0, true);
        stateDue(node, "the loser", loser, REJECTED);
        setDue(node, 0, 1, 3, third, loser, 0);
        say(node, 1, true);
        CHECKS.same("its poll is won", 2, node.count(8));
        CHECKS.same("it has no chit", 0, node.look(loser.id(), 2));
        CHECKS.same("the genesis has no more confidence", 1, node.look(0, 1));
        setDue(node, 0, 1, 3, third, loser, 0);
        say(node, 2, true);
        stateDue(node, "the third", third, ACCEPTED);
        say(node, 3, false);
        setDue(node, 0, 1, 3, third, third, 1);
        CHECKS.same("polls open", 0, node.count(6));
        CHECKS.same("polls so far", 4, node.count(7));
        CHECKS.same("polls won", 3, node.count(8));
    }

    /** It and its ancestors speak in the order in which they were held. */
    private static void conflictingAncestorsAlternate() {
        SnowNode node = fresh(5, 5);
        Row one = spendOf(0, 1000000);
        Row two = spendOf(0, 500000, 500000);
        Row both = Row.under(two.id(), one.id()).spends(one.id(), 0).pays(1000000);
        one.take(node);
        two.take(node);
        node.poll();
        node.poll();
        polled(node, both, true);
        setDue(node, 0, 0, 2, one, two, 1);
        CHECKS.same("confidence of both", 1, node.look(both.id(), 1));
        CHECKS.same("confidence of one", 1, node.look(one.id(), 1));
        CHECKS.same("confidence of two", 1, node.look(two.id(), 1));
        polled(node, Row.under(both.id()).spends(0, 1).pays(1000000), true);
        setDue(node, 0, 0, 2, one, two, 1);
    }

    private static void acceptedByChildren() {
        SnowNode node = fresh(2, 3);
        Row a = spendOf(0, 1000000);
        Row b = Row.under(a.id()).spends(0, 1).pays(1000000);
        Row c = Row.under(b.id()).spends(0, 2).pays(1000000);
        Row d = Row.under(b.id()).spends(0, 3).pays(1000000);
        for (Row row : new Row[] {a, b, c, d}) {
            row.take(node);
            node.poll();
        }
        say(node, 2, true);
        stateDue(node, "a", a, HELD);
        say(node, 3, true);
        stateDue(node, "a", a, ACCEPTED);
        stateDue(node, "b", b, ACCEPTED);
        stateDue(node, "c", c, HELD);
        CHECKS.same("no chit of its own", 0, node.look(a.id(), 2));
        CHECKS.same("confidence", 2, node.look(a.id(), 1));
        say(node, 1, false);
        stateDue(node, "b behind a lost poll", b, ACCEPTED);
        setDue(node, 0, 0, 1, a, a, 0);
        setDue(node, 0, 1, 1, b, b, 0);
        setDue(node, 0, 2, 1, c, c, 1);
        CHECKS.same("listed(1, 1)", a.id(), node.listed(1, 1));
        CHECKS.same("listed(1, 2)", b.id(), node.listed(1, 2));
    }

    private static void counts() {
        SnowNode node = fresh(1, 1);
        Row winner = spendOf(0, 1000000);
        Row loser = spendOf(0, 999999, 1);
        Row open = spendOf(1, 1000000);
        winner.take(node);
        loser.take(node);
        open.take(node);
        Row.under(7).spends(7, 0).pays(1).take(node);
        Row.under(8).spends(7, 0).pays(1).take(node);
        Row.under(0).spends(7, 0).pays(1).take(node);
        for (int i = 0; i < 3; i++) {
            node.poll();
        }
        say(node, 0, true);
        node.feed(5);
        int[] want = {7, 2, 4, 2, 1, 1, 2, 3, 1, 4, 8000000};
        for (int what = 0; what < want.length; what++) {
            CHECKS.same("count(" + what + ")", want[what], node.count(what));
        }
        for (int what : new int[] {-1, 11, Integer.MAX_VALUE, Integer.MIN_VALUE}) {
            CHECKS.same("count(" + what + ")", -1, node.count(what));
        }
    }
}
