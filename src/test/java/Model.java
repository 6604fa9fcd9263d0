import java.util.ArrayList;
import java.util.Arrays;
import java.util.HashMap;
import java.util.HashSet;
import java.util.LinkedHashMap;
import java.util.LinkedHashSet;
import java.util.List;
import java.util.Map;
import java.util.NoSuchElementException;
import java.util.Set;

/**
 * The document word by word, with nothing kept that can be counted anew: slow, but near to the
 * text. It has the face of SnowNode, so that both can be asked the same.
 */
final class Model {
    private static final class Tx {
        int id;
        byte[] row = {};
        List<Integer> parents = new ArrayList<>();
        List<String> inputs = new ArrayList<>();
        List<Long> outputs = new ArrayList<>();
        String state = "waiting";
        boolean chit;
        boolean polled;
        Set<Tx> ancestors = new HashSet<>();

        boolean held() {
            return !state.equals("waiting") && !state.equals("bad");
        }
    }

    private static final class Spot {
        List<Tx> joined = new ArrayList<>();
        Tx favourite;
        Tx latest;
        int run;
    }

    private static final class Ask {
        Tx about;
        List<Integer> sample = new ArrayList<>();
        Map<Integer, Boolean> said = new HashMap<>();
    }

    private static final class Pick {
        int rule;
        int colours;
        int colour = -1;
        int run;
        boolean decided;
        int[] votes = new int[8];
        int[] weights = new int[8];
        List<Integer> winners = new ArrayList<>();
    }

    private final int k;
    private final int alpha;
    private final int betaOne;
    private final int betaTwo;
    private long x;
    private final int[] weights = new int[20];
    private final List<Byte> tape = new ArrayList<>();
    private final Map<Integer, Tx> known = new LinkedHashMap<>();
    private final List<Tx> held = new ArrayList<>();
    private final List<Tx> accepted = new ArrayList<>();
    private final Map<String, Spot> spots = new HashMap<>();
    private final Map<Integer, Ask> open = new HashMap<>();
    private final Map<Integer, Pick> picks = new HashMap<>();
    private int polls;
    private int won;

    Model(int seed, int k, int alpha, int betaOne, int betaTwo) {
        x = seed;
        this.k = k < 1 || k > 10 ? 4 : k;
        int least = 1;
        while (2 * least <= this.k) {
            least++;
        }
        this.alpha = alpha < least || alpha > this.k ? least : alpha;
        this.betaOne = betaOne < 1 || betaOne > 20 ? 3 : betaOne;
        this.betaTwo = betaTwo < this.betaOne || betaTwo > 40 ? this.betaOne + 4 : betaTwo;
        Arrays.fill(weights, 1);
        Tx genesis = new Tx();
        for (int i = 0; i < 8; i++) {
            genesis.outputs.add(1000000L);
            spots.put("0:" + i, new Spot());
        }
        genesis.state = "accepted";
        known.put(0, genesis);
        held.add(genesis);
        accepted.add(genesis);
    }

    boolean weigh(int peer, int weight) {
        boolean right = peer >= 0 && peer < 20 && weight >= 0 && weight <= 1000;
        if (right) {
            weights[peer] = weight;
        }
        return right;
    }

    boolean feed(int bytes) {
        if (tape.size() + 4 > 128) {
            return false;
        }
        for (int shift = 24; shift >= 0; shift -= 8) {
            tape.add((byte) (bytes >> shift));
        }
        return true;
    }

    int take(int n) {
        List<Byte> bytes = new ArrayList<>(tape);
        tape.clear();
        if (n < 1 || n > bytes.size()) {
            throw new IllegalArgumentException();
        }
        Tx tx = parse(bytes.subList(0, n));
        if (tx == null) {
            throw new IllegalArgumentException();
        }
        if (known.containsKey(tx.id) || known.size() >= 140) {
            throw new IllegalStateException();
        }
        known.put(tx.id, tx);
        lookAt(tx);
        boolean again = !tx.state.equals("waiting");
        while (again) {
            again = false;
            for (Tx waiting : known.values()) {
                if (waiting.state.equals("waiting")) {
                    lookAt(waiting);
                    if (!waiting.state.equals("waiting")) {
                        again = true;
                        break;
                    }
                }
            }
        }
        return tx.id;
    }

    private static long number(List<Byte> from, int bytes) {
        long value = 0;
        for (int i = 0; i < bytes; i++) {
            value = value * 256 + (from.remove(0) & 255);
        }
        return value;
    }

    private static Tx parse(List<Byte> row) {
        List<Byte> rest = new ArrayList<>(row);
        Tx tx = new Tx();
        int[] width = {4, 5, 4};
        for (int part = 0; part < 3; part++) {
            if (rest.isEmpty()) {
                return null;
            }
            long many = number(rest, 1);
            if (many < 1 || many > 4 || rest.size() < many * width[part]) {
                return null;
            }
            for (int i = 0; i < many; i++) {
                long value = number(rest, 4);
                boolean right = part < 2 ? value <= 0x7fffffffL : value >= 1 && value <= 1000000000L;
                if (!right) {
                    return null;
                }
                if (part == 0) {
                    tx.parents.add((int) value);
                } else if (part == 1) {
                    tx.inputs.add(value + ":" + number(rest, 1));
                } else {
                    tx.outputs.add(value);
                }
            }
        }
        if (!rest.isEmpty()) {
            return null;
        }
        tx.row = new byte[row.size()];
        for (int i = 0; i < tx.row.length; i++) {
            tx.row[i] = row.get(i);
        }
        tx.id = Row.idOf(tx.row);
        return tx;
    }

    private void lookAt(Tx tx) {
        for (int id : tx.parents) {
            if (known.containsKey(id) && known.get(id).state.equals("bad")) {
                tx.state = "bad";
                return;
            }
        }
        Set<Tx> ancestors = new HashSet<>();
        for (int id : tx.parents) {
            if (!known.containsKey(id) || known.get(id).state.equals("waiting")) {
                return;
            }
            ancestors.add(known.get(id));
            ancestors.addAll(known.get(id).ancestors);
        }
        boolean bad = new HashSet<>(tx.parents).size() < tx.parents.size()
                || new HashSet<>(tx.inputs).size() < tx.inputs.size();
        long sum = 0;
        for (String input : tx.inputs) {
            Long amount = null;
            for (Tx ancestor : ancestors) {
                for (int i = 0; i < ancestor.outputs.size(); i++) {
                    if (input.equals(ancestor.id + ":" + i)) {
                        amount = ancestor.outputs.get(i);
                    }
                }
                bad |= ancestor.inputs.contains(input);
            }
            bad |= amount == null;
            sum += amount == null ? 0 : amount;
        }
        for (long amount : tx.outputs) {
            sum -= amount;
        }
        if (bad || sum != 0) {
            tx.state = "bad";
            return;
        }
        tx.ancestors = ancestors;
        join(tx);
    }

    private void join(Tx tx) {
        tx.state = "held";
        held.add(tx);
        for (int i = 0; i < tx.outputs.size(); i++) {
            spots.put(tx.id + ":" + i, new Spot());
        }
        boolean rejected = false;
        for (int id : tx.parents) {
            rejected |= known.get(id).state.equals("rejected");
        }
        for (String input : tx.inputs) {
            Spot spot = spots.get(input);
            spot.joined.add(tx);
            if (spot.joined.size() == 1) {
                spot.favourite = tx;
                spot.latest = tx;
            }
            rejected |= acceptedOf(spot) != null;
        }
        if (rejected) {
            reject(tx);
        }
    }

    private static Tx acceptedOf(Spot spot) {
        for (Tx tx : spot.joined) {
            if (tx.state.equals("accepted")) {
                return tx;
            }
        }
        return null;
    }

    private void reject(Tx tx) {
        tx.state = "rejected";
        for (String input : tx.inputs) {
            Spot spot = spots.get(input);
            if (spot.favourite == tx) {
                spot.favourite = null;
                spot.run = 0;
                for (Tx other : spot.joined) {
                    if (!other.state.equals("rejected")
                            && (spot.favourite == null || confidence(other) > confidence(spot.favourite))) {
                        spot.favourite = other;
                    }
                }
            }
        }
    }

    private int confidence(Tx tx) {
        int chits = 0;
        for (Tx other : held) {
            if (other.chit && (other == tx || other.ancestors.contains(tx))) {
                chits++;
            }
        }
        return chits;
    }

    private boolean liked(Tx tx) {
        for (String input : tx.inputs) {
            if (spots.get(input).favourite != tx) {
                return false;
            }
        }
        return true;
    }

    private boolean strong(Tx tx) {
        for (Tx ancestor : tx.ancestors) {
            if (!liked(ancestor)) {
                return false;
            }
        }
        return liked(tx);
    }

    int query(int id) {
        return !known.containsKey(id) || !known.get(id).held() ? -1 : strong(known.get(id)) ? 1 : 0;
    }

    int poll() {
        Tx about = null;
        for (Tx tx : held) {
            if (about == null && tx.state.equals("held") && !tx.polled) {
                about = tx;
            }
        }
        if (about == null) {
            throw new NoSuchElementException();
        }
        int some = 0;
        for (int weight : weights) {
            some += weight > 0 ? 1 : 0;
        }
        if (open.size() == 6 || some < k) {
            throw new IllegalStateException();
        }
        Ask ask = new Ask();
        ask.about = about;
        about.polled = true;
        for (int j = 0; j < k; j++) {
            x = x * 6364136223846793005L + 1442695040888963407L;
            int sum = 0;
            for (int peer = 0; peer < 20; peer++) {
                sum += ask.sample.contains(peer) ? 0 : weights[peer];
            }
            long r = (x >>> 33) % sum;
            int drawn = -1;
            for (int peer = 0; peer < 20 && drawn < 0; peer++) {
                if (!ask.sample.contains(peer)) {
                    r -= weights[peer];
                    drawn = r < 0 ? peer : -1;
                }
            }
            ask.sample.add(drawn);
        }
        open.put(polls, ask);
        return polls++;
    }

    int sampled(int poll, int j) {
        if (!open.containsKey(poll) || j < -1 || j >= k) {
            throw new IndexOutOfBoundsException();
        }
        return j == -1 ? open.get(poll).about.id : open.get(poll).sample.get(j);
    }

    int answer(int poll, int peer, boolean yes) {
        Ask ask = open.get(poll);
        if (ask == null || !ask.sample.contains(peer)) {
            throw new IllegalArgumentException();
        }
        if (ask.said.containsKey(peer)) {
            throw new IllegalStateException();
        }
        ask.said.put(peer, yes);
        int yeses = 0;
        for (boolean said : ask.said.values()) {
            yeses += said ? 1 : 0;
        }
        if (yeses == alpha) {
            won++;
            open.remove(poll);
            closed(ask.about, true);
            return 1;
        }
        if (ask.said.size() - yeses > k - alpha) {
            open.remove(poll);
            closed(ask.about, false);
            return 2;
        }
        return 0;
    }

    boolean expire(int poll) {
        Ask ask = open.remove(poll);
        if (ask == null) {
            return false;
        }
        closed(ask.about, false);
        return true;
    }

    private void closed(Tx about, boolean wonIt) {
        if (about.state.equals("rejected")) {
            return;
        }
        about.chit |= wonIt;
        for (Tx tx : new ArrayList<>(held)) {
            if (tx.id != 0 && (tx == about || about.ancestors.contains(tx))) {
                for (String input : tx.inputs) {
                    Spot spot = spots.get(input);
                    if (!wonIt) {
                        spot.run = 0;
                        continue;
                    }
                    if (spot.favourite == null || confidence(tx) > confidence(spot.favourite)) {
                        spot.favourite = tx;
                    }
                    if (spot.latest == tx) {
                        spot.run++;
                    } else {
                        spot.latest = tx;
                        spot.run = 1;
                    }
                }
            }
        }
        for (Tx tx : held) {
            if (tx.state.equals("held") && ready(tx)) {
                accept(tx);
            }
        }
    }

    private boolean ready(Tx tx) {
        for (int id : tx.parents) {
            if (!known.get(id).state.equals("accepted")) {
                return false;
            }
        }
        for (String input : tx.inputs) {
            Spot spot = spots.get(input);
            if (spot.latest != tx || spot.run < (spot.joined.size() > 1 ? betaTwo : betaOne)) {
                return false;
            }
        }
        return liked(tx);
    }

    private void accept(Tx tx) {
        tx.state = "accepted";
        accepted.add(tx);
        Set<Tx> others = new HashSet<>();
        for (String input : tx.inputs) {
            others.addAll(spots.get(input).joined);
        }
        others.remove(tx);
        for (Tx other : held) {
            boolean goes = others.contains(other);
            for (Tx ancestor : other.ancestors) {
                goes |= others.contains(ancestor);
            }
            if (goes && other.state.equals("accepted")) {
                throw new AssertionError("an accepted one would be rejected");
            }
            if (goes && !other.state.equals("rejected")) {
                reject(other);
            }
        }
    }

    int look(int id, int what) {
        if (what < 0 || what > 9) {
            throw new IndexOutOfBoundsException();
        }
        Tx tx = known.get(id);
        if (tx == null) {
            return 0;
        }
        if (what >= 1 && what <= 5 && !tx.held()) {
            return 0;
        }
        int descendants = 0;
        for (Tx other : held) {
            descendants += other.ancestors.contains(tx) ? 1 : 0;
        }
        int state = List.of("unknown", "waiting", "held", "accepted", "rejected", "bad").indexOf(tx.state);
        return new int[] {state, confidence(tx), tx.chit ? 1 : 0, tx.held() && liked(tx) ? 1 : 0, tx.ancestors.size(),
            descendants, tx.parents.size(), tx.inputs.size(), tx.outputs.size(), tx.row.length}[what];
    }

    int set(int id, int index, int what) {
        Spot spot = spots.get(id + ":" + index);
        if (spot == null || what < 0 || what > 4) {
            throw new IndexOutOfBoundsException();
        }
        Tx[] told = {null, spot.favourite, spot.latest, null, acceptedOf(spot)};
        return what == 0 ? spot.joined.size() : what == 3 ? spot.run : told[what] == null ? -1 : told[what].id;
    }

    int byteOf(int id, int k) {
        return !known.containsKey(id) || k < 0 || k >= known.get(id).row.length ? -1 : known.get(id).row[k] & 255;
    }

    int listed(int which, int i) {
        List<Integer> list = new ArrayList<>();
        if (which == 0) {
            Set<Integer> taken = new HashSet<>();
            for (Tx tx : held) {
                if (strong(tx)) {
                    taken.addAll(tx.parents);
                }
            }
            for (Tx tx : held) {
                if (strong(tx) && !taken.contains(tx.id)) {
                    list.add(0, tx.id);
                }
            }
            list = list.subList(0, Math.min(4, list.size()));
        } else if (which == 1) {
            for (Tx tx : accepted) {
                list.add(tx.id);
            }
        } else if (which == 2) {
            Set<Integer> missing = new LinkedHashSet<>();
            for (Tx tx : known.values()) {
                if (tx.state.equals("waiting")) {
                    missing.addAll(tx.parents);
                }
            }
            missing.removeAll(known.keySet());
            list.addAll(missing);
        }
        return i < 0 || i >= list.size() ? -1 : list.get(i);
    }

    int unspent(int id, int index) {
        Tx tx = known.get(id);
        if (tx == null || !tx.state.equals("accepted") || index < 0 || index >= tx.outputs.size()) {
            return 0;
        }
        for (Tx other : accepted) {
            if (other.inputs.contains(id + ":" + index)) {
                return 0;
            }
        }
        return (int) (long) tx.outputs.get(index);
    }

    boolean begin(int choice, int rule, int colours) {
        if (choice < 0 || choice > 7 || rule < 0 || rule > 2 || colours < 2 || colours > 8) {
            return false;
        }
        Pick pick = new Pick();
        pick.rule = rule;
        pick.colours = colours;
        picks.put(choice, pick);
        return true;
    }

    int meet(int choice, int colour) {
        Pick pick = picks.get(choice);
        if (pick == null || colour < 0 || colour >= pick.colours) {
            throw new IllegalArgumentException();
        }
        pick.colour = pick.colour == -1 ? colour : pick.colour;
        return pick.colour;
    }

    void votes(int choice, int colour, int n) {
        Pick pick = picks.get(choice);
        if (pick == null || pick.decided || colour < 0 || colour >= pick.colours || n < 1) {
            throw new IllegalArgumentException();
        }
        if ((long) Arrays.stream(pick.votes).sum() + n > k) {
            throw new IllegalStateException();
        }
        pick.votes[colour] += n;
    }

    boolean round(int choice) {
        Pick pick = picks.get(choice);
        if (pick == null || pick.decided) {
            throw new IllegalArgumentException();
        }
        int winner = -1;
        for (int i = 0; i < 8; i++) {
            winner = pick.votes[i] >= alpha ? i : winner;
            pick.votes[i] = 0;
        }
        pick.winners.add(winner);
        if (pick.rule == 0 && winner >= 0) {
            pick.colour = winner;
            pick.run++;
        } else if (pick.rule == 1) {
            pick.run = winner < 0 ? 0 : winner == pick.colour ? pick.run + 1 : 1;
            pick.colour = winner < 0 ? pick.colour : winner;
        } else if (pick.rule == 2) {
            pick.run = 0;
            for (int i = pick.winners.size() - 1; winner >= 0 && i >= 0 && pick.winners.get(i) == winner; i--) {
                pick.run++;
            }
            if (winner >= 0) {
                pick.weights[winner]++;
                if (pick.colour < 0 || pick.weights[winner] > pick.weights[pick.colour]) {
                    pick.colour = winner;
                }
            }
        }
        pick.decided = pick.colour >= 0 && pick.run >= (pick.rule == 1 ? betaOne : betaTwo);
        return winner >= 0;
    }

    int state(int choice, int what) {
        Pick pick = picks.get(choice);
        if (pick == null || what < 0 || what >= 4 + pick.colours) {
            return -1;
        }
        if (what >= 4) {
            return pick.rule == 2 ? pick.weights[what - 4] : 0;
        }
        return new int[] {pick.colour, pick.run, pick.decided ? 1 : 0, Arrays.stream(pick.votes).sum()}[what];
    }

    int count(int what) {
        int[] states = new int[6];
        for (int id : known.keySet()) {
            states[look(id, 0)]++;
        }
        int sum = 0;
        for (Tx tx : accepted) {
            for (int i = 0; i < tx.outputs.size(); i++) {
                sum += unspent(tx.id, i);
            }
        }
        int[] counts = {known.size(), states[1], held.size(), accepted.size(), states[4], states[5], open.size(),
            polls, won, tape.size(), sum};
        return what < 0 || what >= counts.length ? -1 : counts[what];
    }

    /** All IDs that are known, for tests that want to look at every one. */
    List<Integer> ids() {
        return new ArrayList<>(known.keySet());
    }

    List<Integer> openPolls() {
        return new ArrayList<>(open.keySet());
    }

    /** What a child of these could spend: ID, index and amount of each output. */
    List<long[]> spendableUnder(List<Integer> parents) {
        Set<Tx> around = new HashSet<>();
        for (int id : parents) {
            around.add(known.get(id));
            around.addAll(known.get(id).ancestors);
        }
        List<long[]> found = new ArrayList<>();
        for (Tx tx : known.values()) {
            for (int i = 0; around.contains(tx) && i < tx.outputs.size(); i++) {
                boolean spent = false;
                for (Tx other : around) {
                    spent |= other.inputs.contains(tx.id + ":" + i);
                }
                if (!spent) {
                    found.add(new long[] {tx.id, i, tx.outputs.get(i)});
                }
            }
        }
        return found;
    }
}
