/** Promise 13, case by case: the three lists, their first and last places, and what is not in them. */
public final class Promise13Test {
    public static void main(String[] args) {
        Cases.run(Promise13Test.class);
    }

    // Which, and i

    static void p13_whichBelow0(Checks checks) {
        SnowNode node = Nodes.quick(1, 1);
        Nodes.beside(0, 77).take(node);
        for (int which : new int[] {-1, -2, Nodes.MIN}) {
            checks.same("listed(" + which + ", 0)", Nodes.NONE, node.listed(which, 0));
        }
    }

    static void p13_whichOf0To2(Checks checks) {
        SnowNode node = Nodes.quick(1, 1);
        Row row = Nodes.spend(0, 1000000);
        Nodes.win(node, row);
        Nodes.beside(1, 77).take(node);
        Nodes.list(checks, node, 0, row.id());
        Nodes.list(checks, node, 1, 0, row.id());
        Nodes.list(checks, node, 2, 77);
    }

    static void p13_whichAbove2(Checks checks) {
        SnowNode node = Nodes.quick(1, 1);
        Nodes.beside(0, 77).take(node);
        for (int which : new int[] {3, 4, Nodes.MAX}) {
            checks.same("listed(" + which + ", 0)", Nodes.NONE, node.listed(which, 0));
        }
    }

    static void p13_iBelow0(Checks checks) {
        SnowNode node = Nodes.quick(1, 1);
        Nodes.beside(0, 77).take(node);
        for (int which = 0; which < 3; which++) {
            checks.same("listed(" + which + ", -1)", Nodes.NONE, node.listed(which, -1));
            checks.same("listed(" + which + ", min)", Nodes.NONE, node.listed(which, Nodes.MIN));
        }
    }

    static void p13_iBehindTheLast(Checks checks) {
        SnowNode node = Nodes.quick(1, 1);
        Nodes.beside(0, 77).take(node);
        for (int which = 0; which < 3; which++) {
            checks.same("listed(" + which + ", 1)", Nodes.NONE, node.listed(which, 1));
            checks.same("listed(" + which + ", max)", Nodes.NONE, node.listed(which, Nodes.MAX));
        }
    }

    // 0: parents for a new one

    static void p13_genesisAloneIsTheParent(Checks checks) {
        Nodes.list(checks, Nodes.quick(1, 1), 0, 0);
    }

    static void p13_threeFourAndFiveParents(Checks checks) {
        SnowNode node = Nodes.quick(1, 1);
        int[] ids = new int[6];
        for (int i = 0; i < 6; i++) {
            ids[i] = Nodes.spend(i, 1000000).take(node);
            int many = Math.min(i + 1, 4);
            int[] want = new int[many];
            for (int j = 0; j < many; j++) {
                want[j] = ids[i - j];
            }
            Nodes.list(checks, node, 0, want);
            checks.same("listed(0, 5)", Nodes.NONE, node.listed(0, 5));
        }
    }

    /** The one held last is the first, not the one taken last. */
    static void p13_parentsByTheOrderOfHolding(Checks checks) {
        SnowNode node = Nodes.quick(1, 1);
        Row late = Nodes.spend(0, 1000000);
        Row waiting = Nodes.beside(1, late.id(), 0);
        Row other = Nodes.spend(2, 1000000);
        Nodes.takeAll(node, waiting, other, late);
        Nodes.list(checks, node, 0, waiting.id(), other.id());
    }

    static void p13_parentOfAStrongOneIsNone(Checks checks) {
        SnowNode node = Nodes.quick(1, 1);
        Row a = Nodes.spend(0, 1000000);
        Row b = Nodes.spend(1, 1000000);
        Row child = Nodes.beside(2, 0, a.id());
        Nodes.takeAll(node, a, b, child);
        Nodes.list(checks, node, 0, child.id(), b.id());
    }

    static void p13_parentOfOneThatIsNotStrong(Checks checks) {
        SnowNode node = Nodes.quick(1, 1);
        Row a = Nodes.spend(0, 1000000);
        Row b = Nodes.spend(1, 1000000);
        Row weak = Row.under(a.id()).spends(0, 1).pays(1, 999999);
        Row underWeak = Nodes.beside(2, weak.id(), b.id());
        Nodes.takeAll(node, a, b, weak, underWeak);
        checks.same("query of the weak one", 0, node.query(weak.id()));
        checks.same("query of one under it", 0, node.query(underWeak.id()));
        Nodes.list(checks, node, 0, b.id(), a.id());
    }

    /** The lists follow when the favourite changes, though they were asked before. */
    static void p13_parentOfOneThatIsStrongNoMore(Checks checks) {
        SnowNode node = Nodes.quick(9, 9);
        Row parent = Nodes.spend(0, 1000000);
        Row child = Nodes.beside(1, parent.id());
        Row rival = Nodes.spend(1, 1, 999999);
        Nodes.takeAll(node, parent, child, rival);
        Nodes.list(checks, node, 0, child.id());
        node.poll();
        node.poll();
        Nodes.say(node, node.poll(), true);
        Nodes.list(checks, node, 0, rival.id(), parent.id());
        Nodes.say(node, 1, true);
        Nodes.list(checks, node, 0, rival.id(), parent.id());
        Row grandchild = Row.under(child.id()).spends(child.id(), 0).pays(1000000);
        Nodes.win(node, grandchild);
        checks.same("query of the rival", 0, node.query(rival.id()));
        Nodes.list(checks, node, 0, grandchild.id());
    }

    /** Only its own children count: a grandparent of a strong one has a strong child on the way. */
    static void p13_parentsInAChain(Checks checks) {
        SnowNode node = Nodes.quick(1, 1);
        Row a = Nodes.spend(0, 1000000);
        Row b = Nodes.beside(1, a.id());
        Row c = Nodes.beside(2, b.id());
        Nodes.takeAll(node, a, b, c);
        Nodes.list(checks, node, 0, c.id());
    }

    static void p13_waitingAndBadChildrenDoNotCount(Checks checks) {
        SnowNode node = Nodes.quick(1, 1);
        Row a = Nodes.spend(0, 1000000);
        Nodes.takeAll(node, a, Nodes.beside(1, a.id(), 77), Row.under(a.id()).spends(0, 1).pays(1));
        Nodes.list(checks, node, 0, a.id());
    }

    static void p13_rejectedOnesAreNoParents(Checks checks) {
        SnowNode node = Nodes.quick(1, 1);
        Row winner = Nodes.spend(0, 1000000);
        Row loser = Row.under(0).spends(0, 0, 0, 1).pays(2000000);
        Nodes.win(node, winner);
        Nodes.takeAll(node, loser, Nodes.beside(2, loser.id(), winner.id()));
        Nodes.list(checks, node, 0, winner.id());
    }

    static void p13_genesisIsTheParentBesideWaitingAndBadOnes(Checks checks) {
        SnowNode node = Nodes.quick(1, 1);
        Nodes.takeAll(node, Nodes.beside(0, 0, 77), Nodes.spend(0, 1));
        Nodes.list(checks, node, 0, 0);
    }

    /** The first one of its set was rejected, so that it is nobody's favourite. */
    static void p13_oneInASetWithoutAFavourite(Checks checks) {
        SnowNode node = Nodes.quick(1, 2);
        Row winner = Nodes.spend(0, 1000000);
        Nodes.win(node, winner);
        Row next = Nodes.spend(1, 1000000);
        Nodes.takeAll(node, Row.under(0).spends(0, 0, 0, 1).pays(2000000), next);
        Nodes.list(checks, node, 0, winner.id());
        Nodes.say(node, node.poll(), true);
        Nodes.list(checks, node, 0, next.id(), winner.id());
    }

    // 1: the accepted ones

    static void p13_genesisIsTheFirstAccepted(Checks checks) {
        Nodes.list(checks, Nodes.quick(1, 1), 1, 0);
    }

    static void p13_acceptedInTheOrderOfAcceptance(Checks checks) {
        SnowNode node = Nodes.quick(1, 1);
        Row a = Nodes.spend(0, 1000000);
        Row b = Nodes.spend(1, 1000000);
        Row c = Nodes.spend(2, 1000000);
        Nodes.takeAll(node, a, b, c);
        for (int i = 0; i < 3; i++) {
            node.poll();
        }
        Nodes.say(node, 2, true);
        Nodes.list(checks, node, 1, 0, c.id());
        Nodes.say(node, 0, true);
        Nodes.list(checks, node, 1, 0, c.id(), a.id());
        Nodes.say(node, 1, true);
        Nodes.list(checks, node, 1, 0, c.id(), a.id(), b.id());
    }

    static void p13_acceptedByOnePollInTheOrderOfHolding(Checks checks) {
        SnowNode node = Nodes.quick(1, 1);
        Row a = Nodes.spend(0, 1000000);
        Row b = Nodes.beside(1, a.id());
        Row c = Nodes.beside(2, b.id());
        Nodes.takeAll(node, c, b, a);
        node.poll();
        node.poll();
        Nodes.say(node, node.poll(), true);
        Nodes.list(checks, node, 1, 0, a.id(), b.id(), c.id());
    }

    static void p13_moreThanFourAccepted(Checks checks) {
        SnowNode node = Nodes.quick(1, 1);
        int[] want = new int[8];
        for (int i = 1; i < 8; i++) {
            Row row = Nodes.spend(i, 1000000);
            Nodes.win(node, row);
            want[i] = row.id();
        }
        Nodes.list(checks, node, 1, want);
    }

    // 2: the parents that are missing

    static void p13_noneIsMissing(Checks checks) {
        SnowNode node = Nodes.quick(1, 1);
        Nodes.list(checks, node, 2);
        Nodes.takeAll(node, Nodes.spend(0, 1000000), Nodes.spend(1, 1));
        Nodes.list(checks, node, 2);
    }

    static void p13_missingOnesEachOnceInTheirOrder(Checks checks) {
        SnowNode node = Nodes.quick(1, 1);
        Nodes.takeAll(node, Nodes.beside(0, 50, 40, 50, 60), Nodes.beside(0, 30, 60, 0, 40), Nodes.beside(1, 50));
        Nodes.list(checks, node, 2, 50, 40, 60, 30);
    }

    static void p13_moreThanFourMissing(Checks checks) {
        SnowNode node = Nodes.quick(1, 1);
        Nodes.takeAll(node, Nodes.beside(0, 1, 2, 3, 4), Nodes.beside(0, 5, 6, 7, Nodes.MAX));
        Nodes.list(checks, node, 2, 1, 2, 3, 4, 5, 6, 7, Nodes.MAX);
    }

    static void p13_waitingParentIsKnown(Checks checks) {
        SnowNode node = Nodes.quick(1, 1);
        Row waiting = Nodes.beside(0, 77);
        Nodes.takeAll(node, waiting, Nodes.beside(1, waiting.id(), 78));
        Nodes.list(checks, node, 2, 77, 78);
    }

    static void p13_missingOneBecomesKnown(Checks checks) {
        SnowNode node = Nodes.quick(1, 1);
        Row late = Nodes.spend(0, 1000000);
        Nodes.takeAll(node, Nodes.beside(1, 77, late.id()), Nodes.beside(2, late.id()));
        Nodes.list(checks, node, 2, 77, late.id());
        late.take(node);
        Nodes.list(checks, node, 2, 77);
    }

    /** One that is bad waits no more, so that its other parents are not missed. */
    static void p13_badOnesMissNobody(Checks checks) {
        SnowNode node = Nodes.quick(1, 1);
        Row bad = Nodes.spend(0, 1);
        Row child = Nodes.beside(1, 77, bad.id());
        child.take(node);
        Nodes.list(checks, node, 2, 77, bad.id());
        bad.take(node);
        Nodes.list(checks, node, 2);
        Nodes.beside(1, bad.id(), 79).take(node);
        Nodes.list(checks, node, 2);
    }

    /** Only parents are missed, not the owners of inputs. */
    static void p13_unknownInputIsNotMissed(Checks checks) {
        SnowNode node = Nodes.quick(1, 1);
        Row.under(77).spends(88, 0).pays(1).take(node);
        Nodes.list(checks, node, 2, 77);
    }
}
