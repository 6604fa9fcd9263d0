import java.util.NoSuchElementException;

/** What the cases of the promises say again and again. */
final class Nodes {
    static final Class<?> ARGUMENT = IllegalArgumentException.class;
    static final Class<?> STATE = IllegalStateException.class;
    static final Class<?> INDEX = IndexOutOfBoundsException.class;
    static final Class<?> NOTHING = NoSuchElementException.class;
    static final int NONE = SnowNode.NONE;
    static final int MIN = Integer.MIN_VALUE;
    static final int MAX = Integer.MAX_VALUE;
    static final int UNKNOWN = 0;
    static final int WAITING = 1;
    static final int HELD = 2;
    static final int ACCEPTED = 3;
    static final int REJECTED = 4;
    static final int BAD = 5;

    private Nodes() {
    }

    /** K 1, ALPHA 1: one answer ends a poll. */
    static SnowNode quick(int betaOne, int betaTwo) {
        return new SnowNode(3, 1, 1, betaOne, betaTwo);
    }

    /** Spends an output of the genesis, right under it. */
    static Row spend(int output, int... amounts) {
        return Row.under(0).spends(0, output).pays(amounts);
    }

    /** Spends a whole output of the genesis under others. */
    static Row beside(int output, int... parents) {
        return Row.under(parents).spends(0, output).pays(1000000);
    }

    static void takeAll(SnowNode node, Row... rows) {
        for (Row row : rows) {
            row.take(node);
        }
    }

    /** All of the sample say the same until the poll is closed. */
    static int say(SnowNode node, int poll, boolean yes) {
        int answer = 0;
        for (int j = 0; answer == 0; j++) {
            answer = node.answer(poll, node.sampled(poll, j), yes);
        }
        return answer;
    }

    /** Takes the rows, and ends the next polls, as many as there are rows, with yes. */
    static void win(SnowNode node, Row... rows) {
        takeAll(node, rows);
        for (int i = 0; i < rows.length; i++) {
            say(node, node.poll(), true);
        }
    }

    /** Takes the row and ends the next poll with no. */
    static void lose(SnowNode node, Row row) {
        row.take(node);
        say(node, node.poll(), false);
    }

    static Object vote(SnowNode node, int choice, int colour, int n) {
        node.votes(choice, colour, n);
        return "done";
    }

    /** Ends rounds in which the colours have so many votes; NONE is a round without votes. */
    static void rounds(SnowNode node, int choice, int votes, int... colours) {
        for (int colour : colours) {
            if (colour != NONE) {
                node.votes(choice, colour, votes);
            }
            node.round(choice);
        }
    }

    static void state(Checks checks, SnowNode node, String name, int state, Row row) {
        checks.same("the state of " + name, state, node.look(row.id(), 0));
    }

    /** How many joined, favourite, latest and run; no row is NONE. */
    static void set(Checks checks, SnowNode node, int id, int index, int joined, Row favourite, Row latest, int run) {
        String name = "set(" + id + ", " + index + ", ";
        checks.same(name + "0)", joined, node.set(id, index, 0));
        checks.same(name + "1)", favourite == null ? NONE : favourite.id(), node.set(id, index, 1));
        checks.same(name + "2)", latest == null ? NONE : latest.id(), node.set(id, index, 2));
        checks.same(name + "3)", run, node.set(id, index, 3));
    }

    /** Colour, run, decided and the votes of a choice. */
    static void choice(Checks checks, SnowNode node, int choice, int... want) {
        for (int what = 0; what < want.length; what++) {
            checks.same("state(" + choice + ", " + what + ")", want[what], node.state(choice, what));
        }
    }

    /** The IDs in a list of listed, and NONE behind them. */
    static void list(Checks checks, SnowNode node, int which, int... ids) {
        for (int i = 0; i < ids.length; i++) {
            checks.same("listed(" + which + ", " + i + ")", ids[i], node.listed(which, i));
        }
        checks.same("listed(" + which + ", " + ids.length + ")", NONE, node.listed(which, ids.length));
    }
}
