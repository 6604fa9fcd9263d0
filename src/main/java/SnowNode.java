import java.util.ArrayList;
import java.util.Arrays;
import java.util.NoSuchElementException;

/**
 * A node that agrees with others by asking some of them again and again: single choices by three
 * rules, and a graph of transactions that spend one another's outputs.
 */
public final class SnowNode {
    public static final int NONE = -1;

    private static final int WAITING = 1;
    private static final int HELD = 2;
    private static final int ACCEPTED = 3;
    private static final int REJECTED = 4;
    private static final int BAD = 5;

    private static final int MAX_OPEN_POLLS = 6;
    private static final int CHOICES = 8;

    private final int sampleSize;
    private final int alpha;
    private final int betaOne;
    private final int betaTwo;
    private final Peers peers;
    private final Tape tape;
    private final Digest digest;
    private final Graph graph;
    private final ArrayList<Poll> openPolls;
    private final Choice[] choices;
    private int pollsSoFar;
    private int pollsWon;

    public SnowNode(int seed, int k, int alpha, int betaOne, int betaTwo) {
        this.sampleSize = k >= 1 && k <= 10 ? k : 4;
        int half = this.sampleSize / 2;
        this.alpha = alpha > half && alpha <= this.sampleSize ? alpha : half + 1;
        this.betaOne = betaOne >= 1 && betaOne <= 20 ? betaOne : 3;
        this.betaTwo = betaTwo >= this.betaOne && betaTwo <= 40 ? betaTwo : this.betaOne + 4;
        this.peers = new Peers(seed);
        this.tape = new Tape();
        this.digest = new Digest();
        this.graph = new Graph(this.betaOne, this.betaTwo);
        this.openPolls = new ArrayList<Poll>();
        this.choices = new Choice[CHOICES];
        this.pollsSoFar = 0;
        this.pollsWon = 0;
    }

    public boolean weigh(int peer, int weight) {
        return peers.changeWeight(peer, weight);
    }

    public boolean feed(int bytes) {
        return tape.append(bytes);
    }

    public int take(int n) throws IllegalArgumentException, IllegalStateException {
        int length = tape.length;
        tape.length = 0;
        if (n < 1 || n > length) {
            throw new IllegalArgumentException("the tape does not have so many bytes");
        }
        Transaction taken = Reader.readTransaction(Arrays.copyOf(tape.bytes, n), digest);
        if (taken == null) {
            throw new IllegalArgumentException("these bytes are no transaction");
        }
        if (graph.find(taken.id) != null) {
            throw new IllegalStateException("a transaction with this ID is known");
        }
        if (graph.isFull()) {
            throw new IllegalStateException("no more transactions can be known");
        }
        graph.admit(taken);
        return taken.id;
    }

    public int query(int id) {
        Transaction asked = graph.find(id);
        if (asked == null || !asked.isHeld()) {
            return NONE;
        }
        graph.markStrong();
        return asked.strong ? 1 : 0;
    }

    public int poll() throws NoSuchElementException, IllegalStateException {
        Transaction about = graph.firstToPoll();
        if (about == null) {
            throw new NoSuchElementException("no transaction is left to poll about");
        }
        if (openPolls.size() >= MAX_OPEN_POLLS) {
            throw new IllegalStateException("too many polls are open");
        }
        if (peers.countWithWeight() < sampleSize) {
            throw new IllegalStateException("too few peers have a weight");
        }
        about.polled = true;
        int number = pollsSoFar;
        pollsSoFar++;
        openPolls.add(new Poll(number, about, peers.draw(sampleSize)));
        return number;
    }

    public int sampled(int poll, int j) throws IndexOutOfBoundsException {
        Poll open = findOpenPoll(poll);
        if (open == null) {
            throw new IndexOutOfBoundsException("no such open poll");
        }
        if (j == NONE) {
            return open.about.id;
        }
        if (j < 0 || j >= open.sample.length) {
            throw new IndexOutOfBoundsException("no such peer of the sample");
        }
        return open.sample[j];
    }

    public int answer(int poll, int peer, boolean yes)
            throws IllegalArgumentException, IllegalStateException {
        Poll open = findOpenPoll(poll);
        if (open == null) {
            throw new IllegalArgumentException("no such open poll");
        }
        int place = open.placeOf(peer);
        if (place < 0) {
            throw new IllegalArgumentException("the peer is not of the sample");
        }
        if (open.said[place]) {
            throw new IllegalStateException("the peer has said something");
        }
        open.record(place, yes);
        if (open.yes >= alpha) {
            pollsWon++;
            dropOpenPoll(poll);
            graph.learn(open.about, true);
            return 1;
        }
        if (open.no > sampleSize - alpha) {
            dropOpenPoll(poll);
            graph.learn(open.about, false);
            return 2;
        }
        return 0;
    }

    public boolean expire(int poll) {
        Poll open = findOpenPoll(poll);
        if (open == null) {
            return false;
        }
        dropOpenPoll(poll);
        graph.learn(open.about, false);
        return true;
    }

    public int look(int id, int what) throws IndexOutOfBoundsException {
        if (what < 0 || what > 9) {
            throw new IndexOutOfBoundsException("no such what");
        }
        Transaction seen = graph.find(id);
        if (seen == null) {
            return 0;
        }
        switch (what) {
            case 0: return seen.status;
            case 1: return seen.confidence;
            case 2: return seen.chit ? 1 : 0;
            case 3: return seen.isLiked() ? 1 : 0;
            case 4: return seen.countAncestors();
            case 5: return graph.countDescendants(seen);
            case 6: return seen.parentIds.length;
            case 7: return seen.inputIds.length;
            case 8: return seen.outputs.length;
            default: return seen.row.length;
        }
    }

    public int set(int id, int index, int what) throws IndexOutOfBoundsException {
        Transaction owner = graph.find(id);
        if (owner == null || !owner.isHeld()) {
            throw new IndexOutOfBoundsException("no such held transaction");
        }
        Output output = owner.outputAt(index);
        if (output == null) {
            throw new IndexOutOfBoundsException("no such output");
        }
        switch (what) {
            case 0: return output.members.size();
            case 1: return idOrNone(output.favourite);
            case 2: return idOrNone(output.latest);
            case 3: return output.run;
            case 4: return idOrNone(output.accepted);
            default: throw new IndexOutOfBoundsException("no such what");
        }
    }

    public int byteOf(int id, int k) {
        Transaction seen = graph.find(id);
        if (seen == null || k < 0 || k >= seen.row.length) {
            return NONE;
        }
        return seen.row[k] & 255;
    }

    public int listed(int which, int i) {
        switch (which) {
            case 0: return idOrNone(graph.newParent(i));
            case 1: return idOrNone(graph.acceptedAt(i));
            case 2: return graph.missingParentId(i);
            default: return NONE;
        }
    }

    public int unspent(int id, int index) {
        Transaction owner = graph.find(id);
        return owner == null ? 0 : owner.unspentAt(index);
    }

    public boolean begin(int choice, int rule, int colours) {
        boolean fits = choice >= 0 && choice < CHOICES && rule >= 0 && rule <= 2
                && colours >= 2 && colours <= Choice.MAX_COLOURS;
        if (!fits) {
            return false;
        }
        if (choices[choice] == null) {
            choices[choice] = new Choice(alpha);
        }
        choices[choice].restart(rule, colours, rule == 1 ? betaOne : betaTwo);
        return true;
    }

    public int meet(int choice, int colour) throws IllegalArgumentException {
        Choice met = findChoice(choice);
        if (met == null || !met.hasColour(colour)) {
            throw new IllegalArgumentException("no such choice or colour");
        }
        if (met.colour == NONE) {
            met.colour = colour;
        }
        return met.colour;
    }

    public void votes(int choice, int colour, int n)
            throws IllegalArgumentException, IllegalStateException {
        Choice voted = findChoice(choice);
        if (voted == null || voted.decided) {
            throw new IllegalArgumentException("no such choice, or it is decided");
        }
        if (!voted.hasColour(colour) || n < 1) {
            throw new IllegalArgumentException("no such colour, or no votes");
        }
        if (n > sampleSize - voted.votesInAll) {
            throw new IllegalStateException("too many votes in this round");
        }
        voted.addVotes(colour, n);
    }

    public boolean round(int choice) throws IllegalArgumentException {
        Choice ended = findChoice(choice);
        if (ended == null || ended.decided) {
            throw new IllegalArgumentException("no such choice, or it is decided");
        }
        return ended.endRound();
    }

    public int state(int choice, int what) {
        Choice seen = findChoice(choice);
        if (seen == null) {
            return NONE;
        }
        switch (what) {
            case 0: return seen.colour;
            case 1: return seen.run;
            case 2: return seen.decided ? 1 : 0;
            case 3: return seen.votesInAll;
            default: return what < 4 ? NONE : seen.weightAt(what - 4);
        }
    }

    public int count(int what) {
        switch (what) {
            case 0: return graph.known.size();
            case 1: return graph.countStatus(WAITING);
            case 2: return graph.held.size();
            case 3: return graph.accepted.size();
            case 4: return graph.countStatus(REJECTED);
            case 5: return graph.countStatus(BAD);
            case 6: return openPolls.size();
            case 7: return pollsSoFar;
            case 8: return pollsWon;
            case 9: return tape.length;
            case 10: return graph.allUnspent();
            default: return NONE;
        }
    }

    private static int idOrNone(Transaction transaction) {
        return transaction == null ? NONE : transaction.id;
    }

    private Poll findOpenPoll(int number) {
        for (int i = 0; i < openPolls.size(); i++) {
            if (openPolls.get(i).number == number) {
                return openPolls.get(i);
            }
        }
        return null;
    }

    private void dropOpenPoll(int number) {
        for (int i = openPolls.size() - 1; i >= 0; i--) {
            if (openPolls.get(i).number == number) {
                openPolls.remove(i);
            }
        }
    }

    private Choice findChoice(int choice) {
        return choice < 0 || choice >= CHOICES ? null : choices[choice];
    }

    /** The peers' weights and the generator that draws samples of them. */
    private static final class Peers {
        private static final int PEERS = 20;
        private static final int MAX_WEIGHT = 1000;

        final int[] weights;
        long generator;

        Peers(int seed) {
            generator = seed;
            weights = new int[PEERS];
            Arrays.fill(weights, 1);
        }

        boolean changeWeight(int peer, int weight) {
            if (peer < 0 || peer >= PEERS || weight < 0 || weight > MAX_WEIGHT) {
                return false;
            }
            weights[peer] = weight;
            return true;
        }

        int countWithWeight() {
            int found = 0;
            for (int i = 0; i < PEERS; i++) {
                if (weights[i] > 0) {
                    found++;
                }
            }
            return found;
        }

        int[] draw(int size) {
            int[] sample = new int[size];
            for (int j = 0; j < size; j++) {
                sample[j] = drawOne(sample, j);
            }
            return sample;
        }

        private int drawOne(int[] sample, int drawn) {
            generator = generator * 6364136223846793005L + 1442695040888963407L;
            int left = 0;
            for (int peer = 0; peer < PEERS; peer++) {
                left += weightLeft(peer, sample, drawn);
            }
            if (left <= 0) {
                return NONE;
            }
            int rest = (int) ((generator >>> 33) % left);
            int sum = 0;
            for (int peer = 0; peer < PEERS; peer++) {
                sum += weightLeft(peer, sample, drawn);
                if (sum > rest) {
                    return peer;
                }
            }
            return NONE;
        }

        private int weightLeft(int peer, int[] sample, int drawn) {
            for (int j = 0; j < drawn; j++) {
                if (sample[j] == peer) {
                    return 0;
                }
            }
            return weights[peer];
        }
    }

    /** The bytes that were fed and not taken yet. */
    private static final class Tape {
        private static final int MAX_BYTES = 128;

        final byte[] bytes;
        int length;

        Tape() {
            bytes = new byte[MAX_BYTES];
            length = 0;
        }

        boolean append(int word) {
            if (length + 4 > MAX_BYTES) {
                return false;
            }
            for (int shift = 24; shift >= 0; shift -= 8) {
                bytes[length] = (byte) (word >>> shift);
                length++;
            }
            return true;
        }
    }

    /** Reads a row of bytes as a transaction; what does not fit is remembered, not thrown. */
    private static final class Reader {
        private static final int MAX_AMOUNT = 1000000000;

        final byte[] row;
        int at;
        boolean fits;

        Reader(byte[] row) {
            this.row = row;
            this.at = 0;
            this.fits = true;
        }

        static Transaction readTransaction(byte[] row, Digest digest) {
            Reader reader = new Reader(row);
            int[] parentIds = new int[reader.nextFew()];
            for (int i = 0; i < parentIds.length; i++) {
                parentIds[i] = reader.nextId();
            }
            int[] inputIds = new int[reader.nextFew()];
            int[] inputIndexes = new int[inputIds.length];
            for (int i = 0; i < inputIds.length; i++) {
                inputIds[i] = reader.nextId();
                inputIndexes[i] = reader.nextByte();
            }
            Output[] outputs = new Output[reader.nextFew()];
            for (int i = 0; i < outputs.length; i++) {
                outputs[i] = new Output(reader.nextAmount());
            }
            if (!reader.fits || reader.at != row.length) {
                return null;
            }
            return new Transaction(digest.idOf(row), row, parentIds, inputIds, inputIndexes, outputs);
        }

        private int nextByte() {
            if (at >= row.length) {
                fits = false;
                return 0;
            }
            int value = row[at] & 255;
            at++;
            return value;
        }

        private int nextWord() {
            int value = 0;
            for (int i = 0; i < 4; i++) {
                value = value << 8 | nextByte();
            }
            return value;
        }

        private int nextFew() {
            int few = nextByte();
            if (few < 1 || few > 4) {
                fits = false;
                return 0;
            }
            return few;
        }

        private int nextId() {
            int id = nextWord();
            if (id < 0) {
                fits = false;
            }
            return id;
        }

        private int nextAmount() {
            int amount = nextWord();
            if (amount < 1 || amount > MAX_AMOUNT) {
                fits = false;
            }
            return amount;
        }
    }

    /** The SHA-256 of a short row, as far as an ID needs it. */
    private static final class Digest {
        /** With the end mark and the length behind it, a row so long fills the one block. */
        private static final int MAX_BYTES = 55;

        private static final int[] START = {
            0x6a09e667, 0xbb67ae85, 0x3c6ef372, 0xa54ff53a,
            0x510e527f, 0x9b05688c, 0x1f83d9ab, 0x5be0cd19
        };

        private static final int[] ROUND = {
            0x428a2f98, 0x71374491, 0xb5c0fbcf, 0xe9b5dba5, 0x3956c25b, 0x59f111f1, 0x923f82a4, 0xab1c5ed5,
            0xd807aa98, 0x12835b01, 0x243185be, 0x550c7dc3, 0x72be5d74, 0x80deb1fe, 0x9bdc06a7, 0xc19bf174,
            0xe49b69c1, 0xefbe4786, 0x0fc19dc6, 0x240ca1cc, 0x2de92c6f, 0x4a7484aa, 0x5cb0a9dc, 0x76f988da,
            0x983e5152, 0xa831c66d, 0xb00327c8, 0xbf597fc7, 0xc6e00bf3, 0xd5a79147, 0x06ca6351, 0x14292967,
            0x27b70a85, 0x2e1b2138, 0x4d2c6dfc, 0x53380d13, 0x650a7354, 0x766a0abb, 0x81c2c92e, 0x92722c85,
            0xa2bfe8a1, 0xa81a664b, 0xc24b8b70, 0xc76c51a3, 0xd192e819, 0xd6990624, 0xf40e3585, 0x106aa070,
            0x19a4c116, 0x1e376c08, 0x2748774c, 0x34b0bcb5, 0x391c0cb3, 0x4ed8aa4a, 0x5b9cca4f, 0x682e6ff3,
            0x748f82ee, 0x78a5636f, 0x84c87814, 0x8cc70208, 0x90befffa, 0xa4506ceb, 0xbef9a3f7, 0xc67178f2
        };

        final int[] words;
        final int[] turning;

        Digest() {
            words = new int[64];
            turning = new int[8];
        }

        int idOf(byte[] row) {
            int length = Math.min(row.length, MAX_BYTES);
            fillBlock(row, length);
            spreadBlock();
            System.arraycopy(START, 0, turning, 0, 8);
            for (int i = 0; i < 64; i++) {
                turn(ROUND[i] + words[i]);
            }
            return (START[0] + turning[0]) & 0x7fffffff;
        }

        private void fillBlock(byte[] row, int length) {
            Arrays.fill(words, 0);
            for (int i = 0; i < length; i++) {
                words[i >> 2] |= (row[i] & 255) << (24 - 8 * (i & 3));
            }
            words[length >> 2] |= 128 << (24 - 8 * (length & 3));
            words[15] = 8 * length;
        }

        private static int rotate(int word, int right) {
            return word >>> right | word << (32 - right);
        }

        private void spreadBlock() {
            for (int i = 16; i < 64; i++) {
                int early = words[i - 15];
                int late = words[i - 2];
                int first = rotate(early, 7) ^ rotate(early, 18) ^ (early >>> 3);
                int second = rotate(late, 17) ^ rotate(late, 19) ^ (late >>> 10);
                words[i] = words[i - 16] + first + words[i - 7] + second;
            }
        }

        private void turn(int added) {
            int a = turning[0];
            int e = turning[4];
            int choose = (e & turning[5]) ^ (~e & turning[6]);
            int most = (a & turning[1]) ^ (a & turning[2]) ^ (turning[1] & turning[2]);
            int sumE = rotate(e, 6) ^ rotate(e, 11) ^ rotate(e, 25);
            int sumA = rotate(a, 2) ^ rotate(a, 13) ^ rotate(a, 22);
            int first = turning[7] + sumE + choose + added;
            for (int i = 7; i > 0; i--) {
                turning[i] = turning[i - 1];
            }
            turning[4] += first;
            turning[0] = first + sumA + most;
        }
    }

    /** An output, and the set of the held transactions that have it as an input. */
    private static final class Output {
        final int amount;
        final ArrayList<Transaction> members;
        Transaction favourite;
        Transaction latest;
        Transaction accepted;
        int run;

        Output(int amount) {
            this.amount = amount;
            this.members = new ArrayList<Transaction>();
            this.favourite = null;
            this.latest = null;
            this.accepted = null;
            this.run = 0;
        }

        void join(Transaction joining) {
            members.add(joining);
            if (members.size() == 1) {
                favourite = joining;
                latest = joining;
            }
        }

        void speakFor(Transaction member) {
            if (favourite == null || member.confidence > favourite.confidence) {
                favourite = member;
            }
            run = latest == member ? run + 1 : 1;
            latest = member;
        }

        void replaceFavourite() {
            favourite = null;
            for (int i = 0; i < members.size(); i++) {
                Transaction member = members.get(i);
                boolean better = favourite == null || member.confidence > favourite.confidence;
                if (member.status != REJECTED && better) {
                    favourite = member;
                }
            }
            run = 0;
        }

        boolean isSpentBefore(Transaction spender) {
            for (int i = 0; i < members.size(); i++) {
                if (spender.hasAncestor(members.get(i))) {
                    return true;
                }
            }
            return false;
        }
    }

    /** A known transaction; parents, spent outputs and ancestors stand when it is held. */
    private static final class Transaction {
        private static final int ANCESTOR_WORDS = (Graph.MAX_KNOWN + 63) / 64;

        final int id;
        final byte[] row;
        final int[] parentIds;
        final int[] inputIds;
        final int[] inputIndexes;
        final Output[] outputs;
        final Transaction[] parents;
        final Output[] spent;
        /** A bit for each held transaction, by its number in the order of holding. */
        final long[] ancestors;
        int heldNumber;
        int status;
        int confidence;
        boolean chit;
        boolean polled;
        boolean strong;
        boolean extended;

        Transaction(int id, byte[] row, int[] parentIds, int[] inputIds, int[] inputIndexes,
                Output[] outputs) {
            this.id = id;
            this.row = row;
            this.parentIds = parentIds;
            this.inputIds = inputIds;
            this.inputIndexes = inputIndexes;
            this.outputs = outputs;
            this.parents = new Transaction[parentIds.length];
            this.spent = new Output[inputIds.length];
            this.ancestors = new long[ANCESTOR_WORDS];
            this.heldNumber = NONE;
            this.status = WAITING;
            this.confidence = 0;
            this.chit = false;
            this.polled = false;
            this.strong = false;
            this.extended = false;
        }

        boolean isHeld() {
            return heldNumber >= 0;
        }

        boolean isOpen() {
            return status == HELD;
        }

        boolean hasAncestor(Transaction other) {
            int number = other.heldNumber;
            return number >= 0 && (ancestors[number >> 6] >>> (number & 63) & 1L) != 0L;
        }

        int countAncestors() {
            int found = 0;
            if (isHeld()) {
                for (int i = 0; i < ANCESTOR_WORDS; i++) {
                    found += Long.bitCount(ancestors[i]);
                }
            }
            return found;
        }

        void gatherAncestors() {
            for (int i = 0; i < parents.length; i++) {
                Transaction parent = parents[i];
                for (int j = 0; j < ANCESTOR_WORDS; j++) {
                    ancestors[j] |= parent.ancestors[j];
                }
                ancestors[parent.heldNumber >> 6] |= 1L << (parent.heldNumber & 63);
            }
        }

        boolean hasTwins() {
            for (int i = 0; i < parentIds.length; i++) {
                for (int j = 0; j < i; j++) {
                    if (parentIds[i] == parentIds[j]) {
                        return true;
                    }
                }
            }
            for (int i = 0; i < inputIds.length; i++) {
                for (int j = 0; j < i; j++) {
                    if (inputIds[i] == inputIds[j] && inputIndexes[i] == inputIndexes[j]) {
                        return true;
                    }
                }
            }
            return false;
        }

        boolean isBalanced() {
            long left = 0L;
            for (int i = 0; i < spent.length; i++) {
                left += spent[i].amount;
            }
            for (int i = 0; i < outputs.length; i++) {
                left -= outputs[i].amount;
            }
            return left == 0L;
        }

        boolean hasAcceptedParents() {
            for (int i = 0; i < parents.length; i++) {
                if (parents[i].status != ACCEPTED) {
                    return false;
                }
            }
            return true;
        }

        boolean hasRejectedParent() {
            for (int i = 0; i < parents.length; i++) {
                if (parents[i].status == REJECTED) {
                    return true;
                }
            }
            return false;
        }

        boolean hasAcceptedRival() {
            for (int i = 0; i < spent.length; i++) {
                if (spent[i].accepted != null) {
                    return true;
                }
            }
            return false;
        }

        boolean hasStrongParents() {
            for (int i = 0; i < parents.length; i++) {
                if (!parents[i].strong) {
                    return false;
                }
            }
            return true;
        }

        boolean isLiked() {
            if (!isHeld()) {
                return false;
            }
            for (int i = 0; i < spent.length; i++) {
                if (spent[i].favourite != this) {
                    return false;
                }
            }
            return true;
        }

        boolean sharesSetWith(Transaction other) {
            for (int i = 0; i < spent.length; i++) {
                for (int j = 0; j < other.spent.length; j++) {
                    if (spent[i] == other.spent[j]) {
                        return true;
                    }
                }
            }
            return false;
        }

        Output outputAt(int index) {
            return index < 0 || index >= outputs.length ? null : outputs[index];
        }

        int unspentAt(int index) {
            Output output = outputAt(index);
            boolean free = status == ACCEPTED && output != null && output.accepted == null;
            return free ? output.amount : 0;
        }
    }

    /** All known transactions and what the polls have said of them. */
    private static final class Graph {
        static final int MAX_KNOWN = 140;
        private static final int MAX_PARENTS = 4;
        private static final int GENESIS_OUTPUTS = 8;
        private static final int GENESIS_AMOUNT = 1000000;

        final int betaOne;
        final int betaTwo;
        final ArrayList<Transaction> known;
        final ArrayList<Transaction> held;
        final ArrayList<Transaction> accepted;
        final int[] missing;

        Graph(int betaOne, int betaTwo) {
            this.betaOne = betaOne;
            this.betaTwo = betaTwo;
            this.known = new ArrayList<Transaction>();
            this.held = new ArrayList<Transaction>();
            this.accepted = new ArrayList<Transaction>();
            this.missing = new int[MAX_KNOWN * MAX_PARENTS];
            Transaction genesis = makeGenesis();
            known.add(genesis);
            held.add(genesis);
            accepted.add(genesis);
        }

        private static Transaction makeGenesis() {
            Output[] outputs = new Output[GENESIS_OUTPUTS];
            for (int i = 0; i < GENESIS_OUTPUTS; i++) {
                outputs[i] = new Output(GENESIS_AMOUNT);
            }
            int[] nothing = new int[0];
            Transaction genesis = new Transaction(0, new byte[0], nothing, nothing, nothing, outputs);
            genesis.heldNumber = 0;
            genesis.status = ACCEPTED;
            return genesis;
        }

        Transaction find(int id) {
            for (int i = 0; i < known.size(); i++) {
                if (known.get(i).id == id) {
                    return known.get(i);
                }
            }
            return null;
        }

        boolean isFull() {
            return known.size() >= MAX_KNOWN;
        }

        void admit(Transaction taken) {
            known.add(taken);
            boolean changed = lookAt(taken);
            for (int i = 0; i < MAX_KNOWN && changed; i++) {
                changed = lookAtWaiting();
            }
        }

        /** Stops at the first change, because it may let an earlier one go on. */
        private boolean lookAtWaiting() {
            for (int i = 0; i < known.size(); i++) {
                Transaction waiting = known.get(i);
                if (waiting.status == WAITING && lookAt(waiting)) {
                    return true;
                }
            }
            return false;
        }

        private boolean lookAt(Transaction looked) {
            int parents = findParents(looked);
            if (parents == WAITING) {
                return false;
            }
            if (parents == HELD) {
                looked.gatherAncestors();
            }
            boolean sound = parents == HELD && !looked.hasTwins() && findSpent(looked)
                    && looked.isBalanced();
            if (!sound) {
                looked.status = BAD;
                return true;
            }
            hold(looked);
            if (looked.hasRejectedParent() || looked.hasAcceptedRival()) {
                reject(looked);
            }
            return true;
        }

        private int findParents(Transaction child) {
            int found = HELD;
            for (int i = 0; i < child.parentIds.length; i++) {
                Transaction parent = find(child.parentIds[i]);
                child.parents[i] = parent;
                if (parent == null || parent.status == WAITING) {
                    found = WAITING;
                } else if (parent.status == BAD) {
                    return BAD;
                }
            }
            return found;
        }

        private boolean findSpent(Transaction spender) {
            for (int i = 0; i < spender.inputIds.length; i++) {
                Transaction owner = find(spender.inputIds[i]);
                if (owner == null || !spender.hasAncestor(owner)) {
                    return false;
                }
                Output output = owner.outputAt(spender.inputIndexes[i]);
                if (output == null || output.isSpentBefore(spender)) {
                    return false;
                }
                spender.spent[i] = output;
            }
            return true;
        }

        private void hold(Transaction joining) {
            joining.status = HELD;
            joining.heldNumber = held.size();
            held.add(joining);
            for (int i = 0; i < joining.spent.length; i++) {
                joining.spent[i].join(joining);
            }
        }

        private void reject(Transaction rejected) {
            rejected.status = REJECTED;
            for (int i = 0; i < rejected.spent.length; i++) {
                if (rejected.spent[i].favourite == rejected) {
                    rejected.spent[i].replaceFavourite();
                }
            }
        }

        void learn(Transaction about, boolean won) {
            if (about.status == REJECTED) {
                return;
            }
            if (won) {
                giveChit(about);
            }
            for (int i = 0; i < held.size(); i++) {
                Transaction touched = held.get(i);
                if (touched == about || about.hasAncestor(touched)) {
                    moveSets(touched, won);
                }
            }
            acceptWhatIsReady();
        }

        /** Confidence is counted on here, so that comparing favourites need not count it anew. */
        private void giveChit(Transaction winner) {
            winner.chit = true;
            winner.confidence++;
            for (int i = 0; i < held.size(); i++) {
                Transaction ancestor = held.get(i);
                if (winner.hasAncestor(ancestor)) {
                    ancestor.confidence++;
                }
            }
        }

        private void moveSets(Transaction touched, boolean won) {
            for (int i = 0; i < touched.spent.length; i++) {
                if (won) {
                    touched.spent[i].speakFor(touched);
                } else {
                    touched.spent[i].run = 0;
                }
            }
        }

        private void acceptWhatIsReady() {
            for (int i = 0; i < held.size(); i++) {
                Transaction candidate = held.get(i);
                if (candidate.isOpen() && isReady(candidate)) {
                    accept(candidate);
                }
            }
        }

        private boolean isReady(Transaction candidate) {
            if (!candidate.hasAcceptedParents() || !candidate.isLiked()) {
                return false;
            }
            for (int i = 0; i < candidate.spent.length; i++) {
                Output output = candidate.spent[i];
                int needed = output.members.size() == 1 ? betaOne : betaTwo;
                if (output.latest != candidate || output.run < needed) {
                    return false;
                }
            }
            return true;
        }

        /**
         * Parents are held before their children, so a child of a rejected one meets it rejected
         * already: looking at parents finds all that have a rejected one as an ancestor.
         */
        private void accept(Transaction winner) {
            winner.status = ACCEPTED;
            accepted.add(winner);
            for (int i = 0; i < winner.spent.length; i++) {
                winner.spent[i].accepted = winner;
            }
            for (int i = 0; i < held.size(); i++) {
                Transaction other = held.get(i);
                if (other.isOpen() && (other.sharesSetWith(winner) || other.hasRejectedParent())) {
                    reject(other);
                }
            }
        }

        /** In the order of holding, strong parents alone tell that all ancestors are liked. */
        void markStrong() {
            for (int i = 0; i < held.size(); i++) {
                Transaction marked = held.get(i);
                marked.extended = false;
                marked.strong = marked.isLiked() && marked.hasStrongParents();
                for (int j = 0; j < marked.parents.length && marked.strong; j++) {
                    marked.parents[j].extended = true;
                }
            }
        }

        Transaction firstToPoll() {
            for (int i = 0; i < held.size(); i++) {
                Transaction candidate = held.get(i);
                if (candidate.isOpen() && !candidate.polled) {
                    return candidate;
                }
            }
            return null;
        }

        int countDescendants(Transaction ancestor) {
            int found = 0;
            for (int i = 0; i < held.size(); i++) {
                if (held.get(i).hasAncestor(ancestor)) {
                    found++;
                }
            }
            return found;
        }

        int countStatus(int status) {
            int found = 0;
            for (int i = 0; i < known.size(); i++) {
                if (known.get(i).status == status) {
                    found++;
                }
            }
            return found;
        }

        Transaction newParent(int place) {
            if (place < 0 || place >= MAX_PARENTS) {
                return null;
            }
            markStrong();
            int before = place;
            for (int i = held.size() - 1; i >= 0; i--) {
                Transaction candidate = held.get(i);
                if (candidate.strong && !candidate.extended) {
                    if (before == 0) {
                        return candidate;
                    }
                    before--;
                }
            }
            return null;
        }

        Transaction acceptedAt(int place) {
            return place < 0 || place >= accepted.size() ? null : accepted.get(place);
        }

        int missingParentId(int place) {
            int found = 0;
            for (int i = 0; i < known.size(); i++) {
                if (known.get(i).status == WAITING) {
                    found = addMissing(known.get(i).parentIds, found);
                }
            }
            return place < 0 || place >= found ? NONE : missing[place];
        }

        private int addMissing(int[] parentIds, int found) {
            int next = found;
            for (int i = 0; i < parentIds.length; i++) {
                boolean isNew = find(parentIds[i]) == null && !isListed(parentIds[i], next);
                if (isNew && next < missing.length) {
                    missing[next] = parentIds[i];
                    next++;
                }
            }
            return next;
        }

        private boolean isListed(int id, int found) {
            for (int i = 0; i < found; i++) {
                if (missing[i] == id) {
                    return true;
                }
            }
            return false;
        }

        int allUnspent() {
            int sum = 0;
            for (int i = 0; i < accepted.size(); i++) {
                Transaction owner = accepted.get(i);
                for (int j = 0; j < owner.outputs.length; j++) {
                    sum += owner.unspentAt(j);
                }
            }
            return sum;
        }
    }

    /** A question to a sample of peers about one transaction. */
    private static final class Poll {
        final int number;
        final Transaction about;
        final int[] sample;
        final boolean[] said;
        int yes;
        int no;

        Poll(int number, Transaction about, int[] sample) {
            this.number = number;
            this.about = about;
            this.sample = sample;
            this.said = new boolean[sample.length];
            this.yes = 0;
            this.no = 0;
        }

        int placeOf(int peer) {
            for (int j = 0; j < sample.length; j++) {
                if (sample[j] == peer) {
                    return j;
                }
            }
            return NONE;
        }

        void record(int place, boolean saysYes) {
            said[place] = true;
            if (saysYes) {
                yes++;
            } else {
                no++;
            }
        }
    }

    /** A single choice among colours by one of the three rules. */
    private static final class Choice {
        static final int MAX_COLOURS = 8;

        final int alpha;
        final int[] votesFor;
        final int[] weights;
        int rule;
        int colours;
        int needed;
        int colour;
        int lastWinner;
        int run;
        int votesInAll;
        boolean decided;

        Choice(int alpha) {
            this.alpha = alpha;
            this.votesFor = new int[MAX_COLOURS];
            this.weights = new int[MAX_COLOURS];
        }

        void restart(int newRule, int newColours, int newNeeded) {
            rule = newRule;
            colours = newColours;
            needed = newNeeded;
            colour = NONE;
            lastWinner = NONE;
            run = 0;
            decided = false;
            Arrays.fill(weights, 0);
            clearVotes();
        }

        boolean hasColour(int asked) {
            return asked >= 0 && asked < colours;
        }

        int weightAt(int asked) {
            return hasColour(asked) ? weights[asked] : NONE;
        }

        void addVotes(int voted, int n) {
            votesFor[voted] += n;
            votesInAll += n;
        }

        boolean endRound() {
            int winner = findWinner();
            clearVotes();
            switch (rule) {
                case 0: followAny(winner); break;
                case 1: followRow(winner); break;
                default: followWeight(winner); break;
            }
            decided = colour != NONE && run >= needed;
            return winner != NONE;
        }

        private int findWinner() {
            for (int i = 0; i < colours; i++) {
                if (votesFor[i] >= alpha) {
                    return i;
                }
            }
            return NONE;
        }

        private void clearVotes() {
            Arrays.fill(votesFor, 0);
            votesInAll = 0;
        }

        private void followAny(int winner) {
            if (winner != NONE) {
                colour = winner;
                run++;
            }
        }

        private void followRow(int winner) {
            if (winner == NONE) {
                run = 0;
            } else {
                run = winner == colour ? run + 1 : 1;
                colour = winner;
            }
        }

        private void followWeight(int winner) {
            if (winner == NONE) {
                run = 0;
            } else {
                weights[winner]++;
                if (colour == NONE || weights[winner] > weights[colour]) {
                    colour = winner;
                }
                run = winner == lastWinner ? run + 1 : 1;
            }
            lastWinner = winner;
        }
    }
}
