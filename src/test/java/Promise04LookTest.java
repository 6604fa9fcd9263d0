/**
 * Promise 4, what becomes of a transaction that is taken, case by case: waiting, bad, held or
 * rejected at once, and in which order those that waited follow.
 */
public final class Promise04LookTest {
    public static void main(String[] args) {
        Cases.run(Promise04LookTest.class);
    }

    private static final int WAITING = Nodes.WAITING;
    private static final int HELD = Nodes.HELD;
    private static final int BAD = Nodes.BAD;
    private static final int REJECTED = Nodes.REJECTED;

    private static void taken(Checks checks, SnowNode node, String name, int state, Row row) {
        checks.due("take of " + name, row.id(), () -> row.take(node));
        Nodes.state(checks, node, name, state, row);
    }

    // Bad, or waiting, by its parents

    static void p04_badParentComesBeforeAnUnknownOne(Checks checks) {
        SnowNode node = Nodes.quick(1, 1);
        Row bad = Nodes.spend(0, 1);
        bad.take(node);
        taken(checks, node, "bad first", BAD, Nodes.beside(1, bad.id(), 77));
        taken(checks, node, "bad last", BAD, Nodes.beside(1, 77, bad.id()));
        taken(checks, node, "bad as the last of four", BAD, Nodes.beside(1, 0, 77, 78, bad.id()));
    }

    static void p04_badParentComesBeforeAWaitingOne(Checks checks) {
        SnowNode node = Nodes.quick(1, 1);
        Row bad = Nodes.spend(0, 1);
        Row waiting = Nodes.beside(0, 77);
        Nodes.takeAll(node, bad, waiting);
        taken(checks, node, "bad first", BAD, Nodes.beside(1, bad.id(), waiting.id()));
        taken(checks, node, "bad last", BAD, Nodes.beside(1, waiting.id(), bad.id()));
    }

    static void p04_badParentBesideHeldOnes(Checks checks) {
        SnowNode node = Nodes.quick(1, 1);
        Row bad = Nodes.spend(0, 1);
        bad.take(node);
        taken(checks, node, "bad first", BAD, Nodes.beside(1, bad.id(), 0));
        taken(checks, node, "bad last", BAD, Nodes.beside(1, 0, bad.id()));
    }

    static void p04_unknownParentKeepsItWaiting(Checks checks) {
        SnowNode node = Nodes.quick(1, 1);
        taken(checks, node, "one unknown", WAITING, Nodes.beside(1, 77));
        taken(checks, node, "unknown first", WAITING, Nodes.beside(1, 77, 0));
        taken(checks, node, "unknown last", WAITING, Nodes.beside(1, 0, 77));
    }

    static void p04_waitingParentKeepsItWaiting(Checks checks) {
        SnowNode node = Nodes.quick(1, 1);
        Row waiting = Nodes.beside(1, 77);
        waiting.take(node);
        taken(checks, node, "waiting first", WAITING, Nodes.beside(2, waiting.id(), 0));
        taken(checks, node, "waiting last", WAITING, Nodes.beside(2, 0, waiting.id()));
    }

    /** All else that is wrong with it is not looked at before its parents are there. */
    static void p04_waitingComesBeforeWhatElseIsWrong(Checks checks) {
        SnowNode node = Nodes.quick(1, 1);
        Row late = Nodes.spend(0, 1000000);
        Row twins = Nodes.beside(1, late.id(), late.id());
        Row unbalanced = Row.under(late.id()).spends(0, 1).pays(1);
        Row sameInputs = Row.under(late.id()).spends(0, 1, 0, 1).pays(2000000);
        Row noOutput = Row.under(late.id()).spends(0, 8).pays(1000000);
        for (Row row : new Row[] {twins, unbalanced, sameInputs, noOutput}) {
            taken(checks, node, "one that will be bad", WAITING, row);
        }
        taken(checks, node, "the late one", HELD, late);
        for (Row row : new Row[] {twins, unbalanced, sameInputs, noOutput}) {
            Nodes.state(checks, node, "one that is bad now", BAD, row);
        }
    }

    static void p04_acceptedAndRejectedParentsAreHeldOnes(Checks checks) {
        SnowNode node = Nodes.quick(1, 1);
        Row accepted = Nodes.spend(0, 1000000);
        Row rejected = Nodes.spend(0, 999999, 1);
        Nodes.win(node, accepted);
        taken(checks, node, "a rival of an accepted one", REJECTED, rejected);
        taken(checks, node, "a child of an accepted one", HELD,
                Row.under(accepted.id()).spends(accepted.id(), 0).pays(1000000));
        Row child = Row.under(rejected.id()).spends(rejected.id(), 1).pays(1);
        taken(checks, node, "a child of a rejected one", REJECTED, child);
        checks.same("ancestors of that", 2, node.look(child.id(), 4));
        taken(checks, node, "a bad child of a rejected one", BAD,
                Row.under(rejected.id()).spends(rejected.id(), 1).pays(2));
    }

    // Two the same

    static void p04_twoParentsTheSame(Checks checks) {
        SnowNode node = Nodes.quick(1, 1);
        Row a = Nodes.spend(0, 1000000);
        Row b = Nodes.spend(1, 1000000);
        Nodes.takeAll(node, a, b);
        int[][] twins = {{0, 0}, {0, a.id(), 0}, {a.id(), 0, 0}, {0, a.id(), b.id(), 0}, {a.id(), b.id(), 0, b.id()},
            {0, 0, 0, 0}};
        for (int[] parents : twins) {
            taken(checks, node, "twins", BAD, Nodes.beside(2, parents));
        }
        taken(checks, node, "three parents, all different", HELD, Nodes.beside(2, b.id(), 0, a.id()));
    }

    static void p04_twoInputsTheSame(Checks checks) {
        SnowNode node = Nodes.quick(1, 1);
        int[][] twins = {{0, 3, 0, 3}, {0, 3, 0, 4, 0, 3}, {0, 4, 0, 3, 0, 3}, {0, 3, 0, 4, 0, 5, 0, 3}};
        for (int[] inputs : twins) {
            taken(checks, node, "twins", BAD, Row.under(0).spends(inputs).pays(inputs.length / 2 * 1000000));
        }
        taken(checks, node, "the same ID, other indexes", HELD,
                Row.under(0).spends(0, 3, 0, 4, 0, 5, 0, 6).pays(4000000));
    }

    static void p04_inputsWithTheSameIndexOfOthers(Checks checks) {
        SnowNode node = Nodes.quick(1, 1);
        Row a = Nodes.spend(0, 1000000);
        a.take(node);
        taken(checks, node, "the same index, other IDs", HELD, Row.under(a.id()).spends(a.id(), 0, 0, 1).pays(2000000));
        Row b = Nodes.spend(2, 1000000);
        b.take(node);
        taken(checks, node, "index 0 of both", HELD,
                Row.under(a.id(), b.id()).spends(a.id(), 0, b.id(), 0).pays(2000000));
    }

    // Inputs

    static void p04_lastOutputAndTheOneBehindIt(Checks checks) {
        SnowNode node = Nodes.quick(1, 1);
        taken(checks, node, "output 7 of the genesis", HELD, Nodes.spend(7, 1000000));
        taken(checks, node, "output 8 of the genesis", BAD, Nodes.spend(8, 1000000));
        taken(checks, node, "output 255 of the genesis", BAD, Nodes.spend(255, 1000000));
        Row one = Nodes.spend(0, 1000000);
        Row four = Nodes.spend(1, 1, 2, 3, 999994);
        Nodes.takeAll(node, one, four);
        taken(checks, node, "output 0 of one", HELD, Row.under(one.id()).spends(one.id(), 0).pays(1000000));
        taken(checks, node, "output 1 of one", BAD, Row.under(one.id()).spends(one.id(), 1).pays(1000000));
        taken(checks, node, "output 3 of four", HELD, Row.under(four.id()).spends(four.id(), 3).pays(999994));
        taken(checks, node, "output 4 of four", BAD, Row.under(four.id()).spends(four.id(), 4).pays(999994));
    }

    static void p04_inputOfAnAncestorFarAbove(Checks checks) {
        SnowNode node = Nodes.quick(1, 1);
        Row a = Nodes.spend(0, 600000, 400000);
        Row b = Row.under(a.id()).spends(a.id(), 0).pays(600000);
        Row c = Row.under(b.id()).spends(b.id(), 0).pays(600000);
        Nodes.takeAll(node, a, b, c);
        taken(checks, node, "the great-grandparent's output", HELD, Row.under(c.id()).spends(a.id(), 1).pays(400000));
        taken(checks, node, "the genesis's output", HELD, Nodes.beside(1, c.id()));
    }

    static void p04_inputOfNoAncestor(Checks checks) {
        SnowNode node = Nodes.quick(1, 1);
        Row a = Nodes.spend(0, 1000000);
        Row waiting = Nodes.beside(1, 77);
        Row bad = Nodes.spend(1, 5);
        Nodes.takeAll(node, a, waiting, bad);
        taken(checks, node, "one of a sibling", BAD, Row.under(0).spends(a.id(), 0).pays(1000000));
        taken(checks, node, "one of a waiting one", BAD, Row.under(a.id()).spends(waiting.id(), 0).pays(1000000));
        taken(checks, node, "one of a bad one", BAD, Row.under(a.id()).spends(bad.id(), 0).pays(5));
        taken(checks, node, "one of an unknown one", BAD, Row.under(a.id()).spends(77, 0).pays(1000000));
        taken(checks, node, "a right one and one of a sibling", BAD,
                Row.under(0).spends(0, 2, a.id(), 0).pays(2000000));
    }

    static void p04_inputThatAnAncestorHas(Checks checks) {
        SnowNode node = Nodes.quick(1, 1);
        Row a = Nodes.spend(0, 600000, 400000);
        Row b = Row.under(a.id()).spends(a.id(), 0).pays(600000);
        Nodes.takeAll(node, a, b);
        taken(checks, node, "the parent's", BAD, Row.under(a.id()).spends(0, 0).pays(1000000));
        taken(checks, node, "the grandparent's", BAD, Row.under(b.id()).spends(0, 0).pays(1000000));
        taken(checks, node, "the parent's beside others", BAD,
                Row.under(0, b.id()).spends(0, 1, a.id(), 0).pays(1600000));
        taken(checks, node, "a sibling's", HELD, Row.under(a.id()).spends(a.id(), 0).pays(599999, 1));
        taken(checks, node, "one that nobody has", HELD, Row.under(b.id()).spends(a.id(), 1).pays(400000));
    }

    /** The second member of a set is an ancestor, the first one is none. */
    static void p04_inputThatALaterMemberOfItsSetHas(Checks checks) {
        SnowNode node = Nodes.quick(1, 1);
        Row first = Nodes.spend(0, 1000000);
        Row second = Nodes.spend(0, 999999, 1);
        Nodes.takeAll(node, first, second);
        taken(checks, node, "under the second", BAD, Nodes.beside(0, second.id()));
        taken(checks, node, "under the first", BAD, Nodes.beside(0, first.id()));
        taken(checks, node, "under none of them", HELD, Nodes.spend(0, 999998, 2));
    }

    // Amounts

    static void p04_amountsTogether(Checks checks) {
        SnowNode node = Nodes.quick(1, 1);
        taken(checks, node, "1 too little", BAD, Nodes.spend(0, 999999));
        taken(checks, node, "as much", HELD, Nodes.spend(0, 1000000));
        taken(checks, node, "1 too much", BAD, Nodes.spend(0, 1000001));
        taken(checks, node, "1 too little of four", BAD,
                Row.under(0).spends(0, 1, 0, 2, 0, 3, 0, 4).pays(1, 2, 3, 3999993));
        taken(checks, node, "as much of four", HELD,
                Row.under(0).spends(0, 1, 0, 2, 0, 3, 0, 4).pays(1, 2, 3, 3999994));
        taken(checks, node, "1 too much of four", BAD,
                Row.under(0).spends(0, 1, 0, 2, 0, 3, 0, 4).pays(1, 2, 3, 3999995));
    }

    /** 4000000000 is more than an int holds, and no wrap-around makes it right. */
    static void p04_amountsAboveAnInt(Checks checks) {
        SnowNode node = Nodes.quick(1, 1);
        taken(checks, node, "the highest", BAD, Nodes.spend(0, 1000000000, 1000000000, 1000000000, 1000000000));
        taken(checks, node, "just above", BAD, Nodes.spend(0, 1000000000, 1000000000, 147483648));
        taken(checks, node, "just below", BAD, Nodes.spend(0, 1000000000, 1000000000, 147483647));
    }

    // The order in which those that wait follow

    private static void heldInOrder(Checks checks, SnowNode node, Row... rows) {
        for (int i = 0; i < rows.length; i++) {
            int poll = node.poll();
            checks.same("held as no. " + i, rows[i].id(), node.sampled(poll, Nodes.NONE));
        }
        checks.due("no more", Nodes.NOTHING, () -> node.poll());
    }

    static void p04_waitingOnesFollowInTheirOrder(Checks checks) {
        SnowNode node = Nodes.quick(1, 1);
        Row late = Nodes.spend(0, 1000000);
        Row first = Nodes.beside(1, late.id());
        Row second = Nodes.beside(2, late.id());
        Row third = Nodes.beside(3, late.id());
        Nodes.takeAll(node, third, first, second, late);
        heldInOrder(checks, node, late, third, first, second);
    }

    /** When one is held, it begins again from the first one, not behind the one that was held. */
    static void p04_waitingOnesAreLookedAtAgainFromTheFirst(Checks checks) {
        SnowNode node = Nodes.quick(1, 1);
        Row late = Nodes.spend(0, 1000000);
        Row middle = Nodes.beside(1, late.id());
        Row first = Nodes.beside(2, middle.id());
        Row last = Nodes.beside(3, late.id());
        Nodes.takeAll(node, first, middle, last, late);
        heldInOrder(checks, node, late, middle, first, last);
    }

    /** The order decides who is first in a set. */
    static void p04_waitingOnesJoinTheirSetsInTheOrderOfHolding(Checks checks) {
        SnowNode node = Nodes.quick(1, 1);
        Row late = Nodes.spend(0, 1000000);
        Row rival = Nodes.spend(1, 999999, 1);
        Row waiting = Nodes.beside(1, late.id());
        Nodes.takeAll(node, waiting, rival, late);
        Nodes.set(checks, node, 0, 1, 2, rival, rival, 0);
        checks.same("the one that waited is not liked", 0, node.look(waiting.id(), 3));
    }

    static void p04_aBadOneMakesThoseThatWaitBad(Checks checks) {
        SnowNode node = Nodes.quick(1, 1);
        Row bad = Nodes.spend(0, 1);
        Row child = Nodes.beside(1, bad.id());
        Row grandchild = Nodes.beside(2, 0, child.id());
        Row other = Nodes.beside(3, bad.id(), 77);
        Row free = Nodes.beside(4, 77);
        Nodes.takeAll(node, grandchild, child, other, free);
        checks.same("waiting", 4, node.count(1));
        taken(checks, node, "the bad one", BAD, bad);
        for (Row row : new Row[] {child, grandchild, other}) {
            Nodes.state(checks, node, "one under it", BAD, row);
        }
        Nodes.state(checks, node, "one beside it", WAITING, free);
        checks.same("bad", 4, node.count(5));
    }

    static void p04_oneOfTwoMissingParentsIsNotEnough(Checks checks) {
        SnowNode node = Nodes.quick(1, 1);
        Row a = Nodes.spend(0, 1000000);
        Row b = Nodes.spend(1, 1000000);
        Row child = Nodes.beside(2, a.id(), b.id());
        taken(checks, node, "the child", WAITING, child);
        a.take(node);
        Nodes.state(checks, node, "the child of one", WAITING, child);
        b.take(node);
        Nodes.state(checks, node, "the child of both", HELD, child);
    }

    static void p04_longChainThatWaits(Checks checks) {
        SnowNode node = Nodes.quick(1, 1);
        Row[] chain = new Row[96];
        chain[0] = Nodes.spend(0, 1000000);
        for (int i = 1; i < chain.length; i++) {
            chain[i] = Row.under(chain[i - 1].id()).spends(chain[i - 1].id(), 0).pays(1000000);
        }
        for (int i = chain.length - 1; i > 0; i--) {
            chain[i].take(node);
        }
        checks.same("waiting", 95, node.count(1));
        chain[0].take(node);
        checks.same("waiting behind the first", 0, node.count(1));
        checks.same("held", 97, node.count(2));
        for (int i = 0; i < chain.length; i += 19) {
            checks.same("ancestors of no. " + i, i + 1, node.look(chain[i].id(), 4));
            checks.same("those under no. " + i, 95 - i, node.look(chain[i].id(), 5));
        }
        checks.same("those under the genesis", 96, node.look(0, 5));
    }

    // Rejected when held

    static void p04_rejectedByARejectedParent(Checks checks) {
        SnowNode node = Nodes.quick(1, 1);
        Row winner = Nodes.spend(0, 1000000);
        Row loser = Nodes.spend(0, 999999, 1);
        Nodes.win(node, winner);
        loser.take(node);
        Row first = Nodes.beside(1, loser.id(), winner.id());
        Row last = Nodes.beside(2, 0, winner.id(), loser.id());
        taken(checks, node, "a rejected parent first", REJECTED, first);
        taken(checks, node, "a rejected parent last", REJECTED, last);
        taken(checks, node, "a rejected grandparent", REJECTED, Nodes.beside(3, last.id()));
        taken(checks, node, "none", HELD, Nodes.beside(4, winner.id()));
        Nodes.set(checks, node, 0, 1, 1, null, first, 0);
    }

    static void p04_rejectedByAnAcceptedOneInASet(Checks checks) {
        SnowNode node = Nodes.quick(1, 1);
        Row winner = Nodes.spend(0, 1000000);
        Row open = Nodes.spend(3, 1000000);
        Nodes.win(node, winner);
        open.take(node);
        Row first = Row.under(0).spends(0, 0, 0, 1).pays(2000000);
        Row last = Row.under(0).spends(0, 2, 0, 0).pays(2000000);
        taken(checks, node, "the taken output first", REJECTED, first);
        taken(checks, node, "the taken output last", REJECTED, last);
        taken(checks, node, "a set with an open one", HELD, Nodes.spend(3, 999999, 1));
        Nodes.set(checks, node, 0, 0, 3, winner, winner, 1);
        Nodes.set(checks, node, 0, 1, 1, null, first, 0);
        Nodes.set(checks, node, 0, 2, 1, null, last, 0);
    }

    /** The first one that joins is the favourite; a later one is not, though that was rejected. */
    static void p04_whoJoinsBehindARejectedFirstOne(Checks checks) {
        SnowNode node = Nodes.quick(1, 1);
        Nodes.win(node, Nodes.spend(0, 1000000));
        Row gone = Row.under(0).spends(0, 0, 0, 1).pays(2000000);
        Row next = Nodes.spend(1, 1000000);
        gone.take(node);
        taken(checks, node, "the next one", HELD, next);
        Nodes.set(checks, node, 0, 1, 2, null, gone, 0);
        checks.same("it is not liked", 0, node.look(next.id(), 3));
    }

    static void p04_secondOneThatJoinsIsNoFavourite(Checks checks) {
        SnowNode node = Nodes.quick(1, 2);
        Row first = Nodes.spend(0, 1000000);
        Row second = Nodes.spend(0, 999999, 1);
        first.take(node);
        Nodes.set(checks, node, 0, 0, 1, first, first, 0);
        second.take(node);
        Nodes.set(checks, node, 0, 0, 2, first, first, 0);
        Nodes.say(node, node.poll(), true);
        Nodes.spend(0, 999998, 2).take(node);
        Nodes.set(checks, node, 0, 0, 3, first, first, 1);
    }
}
