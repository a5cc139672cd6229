import java.util.Arrays;

/** Version control of small files; what each call promises stands in the document DOC.md. */
public final class BranchedSource {
    private static final int FILES = 4;
    private static final int LINES = 6;
    private static final int PLACES = FILES * LINES;
    private static final int VALUES = 100;
    private static final int COMMITS = 60;
    private static final int BRANCHES = 6;
    private static final int ASIDES = 3;
    private static final int RECORDS = 4;
    private static final int PAD_LENGTH = 60;
    private static final int LOWEST_SIGN = 32;
    private static final int HIGHEST_SIGN = 126;

    private static final int NONE = -1;

    private static final int NOTHING_OPEN = 0;
    private static final int MERGE_OPEN = 1;
    private static final int PICK_OPEN = 2;

    private final Pad pad = new Pad();
    private final Repository repository = new Repository();
    private final Records records = new Records();
    private final State snapshot = new State();
    private boolean hasSnapshot = false;

    public BranchedSource() {
    }

    // ---- the pad

    public int type(int character) throws IllegalArgumentException, IllegalStateException {
        if (character < LOWEST_SIGN || character > HIGHEST_SIGN) {
            throw new IllegalArgumentException("the character is out of range");
        }
        if (pad.isFull()) {
            throw new IllegalStateException("the pad is full");
        }
        return pad.append(character);
    }

    public int clearPad() {
        return pad.empty();
    }

    public int fault() {
        return pad.firstFault();
    }

    public int runOrders() throws IllegalStateException {
        if (pad.firstFault() != NONE) {
            throw new IllegalStateException("the pad has a fault");
        }
        recordState();
        int start = 0;
        for (int done = 0; done < PAD_LENGTH; done++) {
            if (start >= pad.length() || !mayCarryOut(start)) {
                return done;
            }
            carryOut(start);
            start = pad.endOfOrder(start) + 1;
        }
        return PAD_LENGTH;
    }

    // ---- the working tree, commits

    public int edit(int file, int line, int value) throws IllegalArgumentException {
        requirePlace(file, line);
        if (value < 0 || value >= VALUES) {
            throw new IllegalArgumentException("the value is out of range");
        }
        recordState();
        return repository.doEdit(placeOf(file, line), value);
    }

    public int commit() throws IllegalStateException {
        if (!repository.mayCommit()) {
            throw new IllegalStateException("there is nothing to commit, or something against it");
        }
        recordState();
        return repository.doCommit();
    }

    public int reset(int commit) throws IllegalArgumentException {
        requireCommit(commit);
        recordState();
        return repository.doReset(commit);
    }

    public int putAside() throws IllegalStateException {
        if (!repository.mayPutAside()) {
            throw new IllegalStateException("nothing can be put aside");
        }
        recordState();
        return repository.doPutAside();
    }

    public int takeBack() throws IllegalStateException {
        if (!repository.mayTakeBack()) {
            throw new IllegalStateException("nothing can be taken back");
        }
        recordState();
        return repository.doTakeBack();
    }

    // ---- branches

    public int newBranch() throws IllegalStateException {
        if (!repository.mayBranch()) {
            throw new IllegalStateException("there are 6 branches");
        }
        recordState();
        return repository.doBranch();
    }

    public int dropBranch(int branch) throws IllegalArgumentException, IllegalStateException {
        requireBranchNumber(branch);
        if (!repository.mayDrop(branch)) {
            throw new IllegalStateException("there is no such branch, or it is the current one");
        }
        recordState();
        return repository.doDrop(branch);
    }

    public int switchTo(int branch) throws IllegalArgumentException, IllegalStateException {
        requireBranchNumber(branch);
        if (!repository.maySwitch(branch)) {
            throw new IllegalStateException("the branch can't become the current one");
        }
        recordState();
        return repository.doSwitch(branch);
    }

    public int merge(int branch) throws IllegalArgumentException, IllegalStateException {
        requireBranchNumber(branch);
        if (!repository.mayMerge(branch)) {
            throw new IllegalStateException("the branch can't be merged");
        }
        recordState();
        return repository.doMerge(branch);
    }

    public int pick(int commit) throws IllegalArgumentException, IllegalStateException {
        requireCommit(commit);
        if (!repository.mayPick(commit, false)) {
            throw new IllegalStateException("the commit can't be picked");
        }
        recordState();
        return repository.doPick(commit, false);
    }

    public int revert(int commit) throws IllegalArgumentException, IllegalStateException {
        requireCommit(commit);
        if (!repository.mayPick(commit, true)) {
            throw new IllegalStateException("the commit can't be reverted");
        }
        recordState();
        return repository.doPick(commit, true);
    }

    public int replay(int branch) throws IllegalArgumentException, IllegalStateException {
        requireBranchNumber(branch);
        if (!repository.mayReplay(branch)) {
            throw new IllegalStateException("the commits can't be replayed on the branch");
        }
        recordState();
        return repository.doReplay(branch);
    }

    // ---- conflicts

    public int resolve(int file, int line, boolean isTheirs) throws IllegalArgumentException, IllegalStateException {
        requirePlace(file, line);
        requireConflict(placeOf(file, line));
        recordState();
        return repository.doResolve(placeOf(file, line), isTheirs);
    }

    public int abort() throws IllegalStateException {
        if (!repository.mayAbort()) {
            throw new IllegalStateException("nothing is open");
        }
        recordState();
        return repository.doAbort();
    }

    public boolean isConflict(int file, int line) throws IllegalArgumentException {
        requirePlace(file, line);
        return repository.now.isInConflict(placeOf(file, line));
    }

    public int theirs(int file, int line) throws IllegalArgumentException, IllegalStateException {
        requirePlace(file, line);
        requireConflict(placeOf(file, line));
        return repository.now.otherSide(placeOf(file, line));
    }

    public int conflicts() {
        return repository.now.countConflicts();
    }

    public int regions() {
        return repository.now.countRegions();
    }

    public int longestRegion() {
        return repository.now.longestRow();
    }

    public boolean isMerging() {
        return repository.now.open == MERGE_OPEN;
    }

    public boolean isPicking() {
        return repository.now.open == PICK_OPEN;
    }

    // ---- lines

    public int lineOf(int file, int line) throws IllegalArgumentException {
        requirePlace(file, line);
        return repository.now.workLine(placeOf(file, line));
    }

    public boolean isChanged(int file, int line) throws IllegalArgumentException {
        requirePlace(file, line);
        return repository.now.isOther(placeOf(file, line));
    }

    public int changed() {
        return repository.now.countChanged();
    }

    public int lineAt(int commit, int file, int line) throws IllegalArgumentException {
        requireCommit(commit);
        requirePlace(file, line);
        return repository.now.treeLine(commit, placeOf(file, line));
    }

    public int differences(int commit, int other) throws IllegalArgumentException {
        requireCommit(commit);
        requireCommit(other);
        return repository.now.countDifferences(commit, other);
    }

    public int broughtBy(int commit, int file, int line) throws IllegalArgumentException {
        requireCommit(commit);
        requirePlace(file, line);
        return repository.now.bringerOf(commit, placeOf(file, line));
    }

    public int firstWith(int commit, int file, int line, int value) throws IllegalArgumentException {
        requireCommit(commit);
        requirePlace(file, line);
        return repository.histories.lowestWith(repository.now, commit, placeOf(file, line), value);
    }

    public double fullness() {
        return repository.now.countFilled() / (double) PLACES;
    }

    // ---- commits, branches

    public int commits() {
        return repository.now.commitCount;
    }

    public int firstParent(int commit) throws IllegalArgumentException {
        requireCommit(commit);
        return repository.now.parentOne(commit);
    }

    public int secondParent(int commit) throws IllegalArgumentException {
        requireCommit(commit);
        return repository.now.parentTwo(commit);
    }

    public int branches() {
        return repository.now.countBranches();
    }

    public boolean isBranch(int branch) throws IllegalArgumentException {
        requireBranchNumber(branch);
        return repository.now.hasBranch(branch);
    }

    public int standsAt(int branch) throws IllegalArgumentException, IllegalStateException {
        requireBranchNumber(branch);
        requireBranch(branch);
        return repository.now.commitOf(branch);
    }

    public int current() {
        return repository.now.currentBranch;
    }

    public int head() {
        return repository.now.headCommit();
    }

    public int aside() {
        return repository.now.asideCount;
    }

    public int lost() {
        return repository.histories.countUnreached(repository.now);
    }

    // ---- histories

    public boolean reaches(int commit, int other) throws IllegalArgumentException {
        requireCommit(commit);
        requireCommit(other);
        return repository.histories.isReached(repository.now, commit, other);
    }

    public int history(int commit) throws IllegalArgumentException {
        requireCommit(commit);
        return repository.histories.countReached(repository.now, commit);
    }

    public int historyAt(int commit, int place) throws IllegalArgumentException {
        requireCommit(commit);
        if (place < 0) {
            throw new IllegalArgumentException("the place is below 0");
        }
        return repository.histories.reachedAt(repository.now, commit, place);
    }

    public int distance(int commit, int other) throws IllegalArgumentException {
        requireCommit(commit);
        requireCommit(other);
        return repository.histories.fewestSteps(repository.now, commit, other);
    }

    public int depth(int commit) throws IllegalArgumentException {
        requireCommit(commit);
        return repository.histories.mostSteps(repository.now, commit);
    }

    public int base(int commit, int other) throws IllegalArgumentException {
        requireCommit(commit);
        requireCommit(other);
        return repository.histories.commonByGoingDown(repository.now, commit, other);
    }

    public int baseByMarks(int commit, int other) throws IllegalArgumentException {
        requireCommit(commit);
        requireCommit(other);
        return repository.histories.commonByMarks(repository.now, commit, other);
    }

    public int bestCommon(int commit, int other) throws IllegalArgumentException {
        requireCommit(commit);
        requireCommit(other);
        return repository.histories.countBest(repository.now, commit, other);
    }

    // ---- what would be, accounts

    public int wouldConflict(int branch) throws IllegalArgumentException, IllegalStateException {
        requireBranchNumber(branch);
        requireBranch(branch);
        repository.combineWithHead(repository.now.commitOf(branch));
        return repository.combination.conflicting;
    }

    public int wouldBecome(int branch) throws IllegalArgumentException, IllegalStateException {
        requireBranchNumber(branch);
        requireBranch(branch);
        repository.combineWithHead(repository.now.commitOf(branch));
        return repository.combination.becoming;
    }

    public int merges() {
        return repository.now.countMerges();
    }

    public int allConflicts() {
        return repository.now.conflictsSoFar;
    }

    // ---- the snapshot, undo

    public int keep() {
        snapshot.copyFrom(repository.now);
        hasSnapshot = true;
        return repository.now.commitCount;
    }

    public int goBack() throws IllegalStateException {
        if (!hasSnapshot) {
            throw new IllegalStateException("there is no snapshot");
        }
        recordState();
        repository.now.copyFrom(snapshot);
        return repository.now.commitCount;
    }

    public int undo() throws IllegalStateException {
        if (records.count == 0) {
            throw new IllegalStateException("no state is recorded");
        }
        records.bringBack(repository.now);
        return records.count;
    }

    // ---- what the calls have in common

    private static boolean isPlace(int file, int line) {
        return file >= 0 && file < FILES && line >= 0 && line < LINES;
    }

    private static int placeOf(int file, int line) {
        return file * LINES + line;
    }

    private static void requirePlace(int file, int line) throws IllegalArgumentException {
        if (!isPlace(file, line)) {
            throw new IllegalArgumentException("the file or the line is out of range");
        }
    }

    private static void requireBranchNumber(int branch) throws IllegalArgumentException {
        if (branch < 0 || branch >= BRANCHES) {
            throw new IllegalArgumentException("the branch is out of range");
        }
    }

    private void requireBranch(int branch) throws IllegalStateException {
        if (!repository.now.hasBranch(branch)) {
            throw new IllegalStateException("there is no such branch");
        }
    }

    private void requireCommit(int commit) throws IllegalArgumentException {
        if (!repository.now.hasCommit(commit)) {
            throw new IllegalArgumentException("there is no such commit");
        }
    }

    private void requireConflict(int place) throws IllegalStateException {
        if (!repository.now.isInConflict(place)) {
            throw new IllegalStateException("the line is not in conflict");
        }
    }

    private void recordState() {
        records.add(repository.now);
    }

    /** The pad has no fault here, so what is no other order is an edit, and its numbers are in range. */
    private boolean mayCarryOut(int start) {
        int number = pad.numberFrom(start + 1);
        switch (pad.signAt(start)) {
            case 'c':
                return repository.mayCommit();
            case 'b':
                return repository.mayBranch();
            case 'a':
                return repository.mayAbort();
            case 's':
                return repository.maySwitch(number);
            case 'm':
                return repository.mayMerge(number);
            case 'p':
                return repository.mayPick(number, false);
            case 'r':
                return repository.mayPick(number, true);
            default:
                return true;
        }
    }

    private void carryOut(int start) {
        int number = pad.numberFrom(start + 1);
        switch (pad.signAt(start)) {
            case 'c':
                repository.doCommit();
                break;
            case 'b':
                repository.doBranch();
                break;
            case 'a':
                repository.doAbort();
                break;
            case 's':
                repository.doSwitch(number);
                break;
            case 'm':
                repository.doMerge(number);
                break;
            case 'p':
                repository.doPick(number, false);
                break;
            case 'r':
                repository.doPick(number, true);
                break;
            default:
                int place = placeOf(pad.numberFrom(start), pad.numberFrom(start + 2));
                repository.doEdit(place, pad.numberFrom(start + 4));
                break;
        }
    }

    /** The characters that were typed, read as orders. */
    private static final class Pad {
        // What the next character may be: each constant stands for one place in an order.
        private static final int ORDER = 0;
        private static final int DOT = 1;
        private static final int LINE = 2;
        private static final int EQUALS = 3;
        private static final int VALUE = 4;
        private static final int BRANCH = 5;
        private static final int COMMIT = 6;
        private static final int DIGIT_OR_END = 7;
        private static final int END = 8;
        private static final int WRONG = 9;

        private final int[] signs = new int[PAD_LENGTH];
        private int used = 0;

        int length() {
            return used;
        }

        boolean isFull() {
            return used >= PAD_LENGTH;
        }

        int append(int sign) {
            if (used < PAD_LENGTH) {
                signs[used] = sign;
                used++;
            }
            return used;
        }

        int empty() {
            int before = used;
            used = 0;
            return before;
        }

        /** A place behind the text is answered like the end of an order, so that reading always ends. */
        int signAt(int place) {
            return place >= 0 && place < used && place < PAD_LENGTH ? signs[place] : ';';
        }

        int firstFault() {
            int awaited = ORDER;
            for (int place = 0; place < used; place++) {
                awaited = awaitedAfter(awaited, signAt(place));
                if (awaited == WRONG) {
                    return place;
                }
            }
            return awaited == ORDER ? NONE : used;
        }

        int endOfOrder(int start) {
            int place = start;
            while (place < used && signAt(place) != ';') {
                place++;
            }
            return place;
        }

        /** Numbers have two digits at most, by the grammar. */
        int numberFrom(int start) {
            int number = 0;
            for (int place = start; place < start + 2 && isBetween(signAt(place), '0', '9'); place++) {
                number = number * 10 + (signAt(place) - '0');
            }
            return number;
        }

        private static boolean isBetween(int sign, int lowest, int highest) {
            return sign >= lowest && sign <= highest;
        }

        private static int awaitedAfter(int awaited, int sign) {
            switch (awaited) {
                case ORDER:
                    return awaitedAfterStart(sign);
                case DOT:
                    return sign == '.' ? LINE : WRONG;
                case LINE:
                    return isBetween(sign, '0', '5') ? EQUALS : WRONG;
                case EQUALS:
                    return sign == '=' ? VALUE : WRONG;
                case VALUE:
                    return awaitedAfterFirstDigit(sign, '9');
                case BRANCH:
                    return isBetween(sign, '0', '5') ? END : WRONG;
                case COMMIT:
                    return awaitedAfterFirstDigit(sign, '5');
                case DIGIT_OR_END:
                    if (isBetween(sign, '0', '9')) {
                        return END;
                    }
                    return sign == ';' ? ORDER : WRONG;
                default:
                    return sign == ';' ? ORDER : WRONG;
            }
        }

        private static int awaitedAfterStart(int sign) {
            switch (sign) {
                case 'c':
                case 'b':
                case 'a':
                    return END;
                case 's':
                case 'm':
                    return BRANCH;
                case 'p':
                case 'r':
                    return COMMIT;
                default:
                    return isBetween(sign, '0', '3') ? DOT : WRONG;
            }
        }

        /** A second digit comes only behind a first one that is not 0 and lets the number stay in its range. */
        private static int awaitedAfterFirstDigit(int sign, int highestTens) {
            if (!isBetween(sign, '0', '9')) {
                return WRONG;
            }
            return isBetween(sign, '1', highestTens) ? DIGIT_OR_END : END;
        }
    }

    /** Everything that a record or the snapshot holds: all but the pad. */
    private static final class State {
        private int commitCount = 1;
        private final int[] firstParents = new int[COMMITS];
        private final int[] secondParents = new int[COMMITS];
        private final int[] trees = new int[COMMITS * PLACES];
        private final int[] branchCommits = new int[BRANCHES];
        private int currentBranch = 0;
        private final int[] work = new int[PLACES];
        private final int[] otherSides = new int[PLACES];
        private int open = NOTHING_OPEN;
        private int mergedCommit = NONE;
        private int asideCount = 0;
        private final int[] asideHeads = new int[ASIDES];
        private final int[] asideTrees = new int[ASIDES * PLACES];
        private int conflictsSoFar = 0;

        State() {
            Arrays.fill(firstParents, NONE);
            Arrays.fill(secondParents, NONE);
            Arrays.fill(branchCommits, NONE);
            Arrays.fill(otherSides, NONE);
            branchCommits[0] = 0;
        }

        /** Only the commits that there are get copied: what lies behind them is never read. */
        void copyFrom(State other) {
            int count = Math.min(other.commitCount, COMMITS);
            commitCount = count;
            System.arraycopy(other.firstParents, 0, firstParents, 0, count);
            System.arraycopy(other.secondParents, 0, secondParents, 0, count);
            System.arraycopy(other.trees, 0, trees, 0, count * PLACES);
            System.arraycopy(other.branchCommits, 0, branchCommits, 0, BRANCHES);
            currentBranch = other.currentBranch;
            System.arraycopy(other.work, 0, work, 0, PLACES);
            System.arraycopy(other.otherSides, 0, otherSides, 0, PLACES);
            open = other.open;
            mergedCommit = other.mergedCommit;
            asideCount = other.asideCount;
            System.arraycopy(other.asideHeads, 0, asideHeads, 0, ASIDES);
            System.arraycopy(other.asideTrees, 0, asideTrees, 0, ASIDES * PLACES);
            conflictsSoFar = other.conflictsSoFar;
        }

        // -- commits

        boolean hasCommit(int commit) {
            return commit >= 0 && commit < commitCount && commit < COMMITS;
        }

        boolean hasRoom() {
            return commitCount < COMMITS;
        }

        int parentOne(int commit) {
            return commit >= 0 && commit < commitCount && commit < COMMITS ? firstParents[commit] : NONE;
        }

        int parentTwo(int commit) {
            return commit >= 0 && commit < commitCount && commit < COMMITS ? secondParents[commit] : NONE;
        }

        int treeLine(int commit, int place) {
            boolean isThere = commit >= 0 && commit < COMMITS && place >= 0 && place < PLACES;
            return isThere ? trees[commit * PLACES + place] : 0;
        }

        void copyTree(int commit, int[] row) {
            if (commit >= 0 && commit < COMMITS && row.length >= PLACES) {
                System.arraycopy(trees, commit * PLACES, row, 0, PLACES);
            }
        }

        int countDifferences(int commit, int other) {
            int count = 0;
            for (int place = 0; place < PLACES; place++) {
                if (treeLine(commit, place) != treeLine(other, place)) {
                    count++;
                }
            }
            return count;
        }

        int countMerges() {
            int count = 0;
            for (int commit = 0; commit < commitCount; commit++) {
                if (parentTwo(commit) != NONE) {
                    count++;
                }
            }
            return count;
        }

        int bringerOf(int commit, int place) {
            int bringer = commit;
            for (int step = 0; step < COMMITS; step++) {
                int parent = parentWithLine(bringer, place);
                if (parent == NONE) {
                    return bringer;
                }
                bringer = parent;
            }
            return bringer;
        }

        private int parentWithLine(int commit, int place) {
            int line = treeLine(commit, place);
            int first = parentOne(commit);
            if (first != NONE && treeLine(first, place) == line) {
                return first;
            }
            int second = parentTwo(commit);
            return second != NONE && treeLine(second, place) == line ? second : NONE;
        }

        /** The working tree becomes a commit; nothing is open then. */
        int addCommit(int secondParent) {
            int commit = commitCount;
            if (commit < 0 || commit >= COMMITS) {
                return NONE;
            }
            firstParents[commit] = headCommit();
            secondParents[commit] = secondParent;
            System.arraycopy(work, 0, trees, commit * PLACES, PLACES);
            commitCount++;
            standAt(commit);
            return commit;
        }

        // -- branches

        boolean hasBranch(int branch) {
            return commitOf(branch) != NONE;
        }

        int commitOf(int branch) {
            return branch >= 0 && branch < BRANCHES ? branchCommits[branch] : NONE;
        }

        int headCommit() {
            return currentBranch >= 0 && currentBranch < BRANCHES ? branchCommits[currentBranch] : NONE;
        }

        int countBranches() {
            int count = 0;
            for (int branch = 0; branch < BRANCHES; branch++) {
                if (hasBranch(branch)) {
                    count++;
                }
            }
            return count;
        }

        int lowestFreeBranch() {
            for (int branch = 0; branch < BRANCHES; branch++) {
                if (!hasBranch(branch)) {
                    return branch;
                }
            }
            return NONE;
        }

        void setBranch(int branch, int commit) {
            if (branch >= 0 && branch < BRANCHES) {
                branchCommits[branch] = commit;
            }
        }

        /** The current branch stands at the commit, the working tree is clean, and nothing is open. */
        void standAt(int commit) {
            setBranch(currentBranch, commit);
            copyTree(commit, work);
            Arrays.fill(otherSides, NONE);
            open = NOTHING_OPEN;
            mergedCommit = NONE;
        }

        // -- the working tree

        int workLine(int place) {
            return place >= 0 && place < PLACES ? work[place] : 0;
        }

        /** A line that is set is in conflict no longer, for it is edited or resolved. */
        void setLine(int place, int value) {
            if (place >= 0 && place < PLACES) {
                work[place] = value;
                otherSides[place] = NONE;
            }
        }

        boolean isOther(int place) {
            return workLine(place) != treeLine(headCommit(), place);
        }

        int countChanged() {
            int head = headCommit();
            int count = 0;
            for (int place = 0; place < PLACES; place++) {
                if (work[place] != treeLine(head, place)) {
                    count++;
                }
            }
            return count;
        }

        int countFilled() {
            int count = 0;
            for (int place = 0; place < PLACES; place++) {
                if (work[place] != 0) {
                    count++;
                }
            }
            return count;
        }

        /** Whether the working tree is clean and nothing is open; many changes ask for both. */
        boolean isAtRest() {
            return open == NOTHING_OPEN && countChanged() == 0;
        }

        // -- conflicts

        int otherSide(int place) {
            return place >= 0 && place < PLACES ? otherSides[place] : NONE;
        }

        boolean isInConflict(int place) {
            return otherSide(place) != NONE;
        }

        int countConflicts() {
            int count = 0;
            for (int place = 0; place < PLACES; place++) {
                if (isInConflict(place)) {
                    count++;
                }
            }
            return count;
        }

        int countRegions() {
            int count = 0;
            for (int place = 0; place < PLACES; place++) {
                boolean isBehindOther = place % LINES != 0 && isInConflict(place - 1);
                if (isInConflict(place) && !isBehindOther) {
                    count++;
                }
            }
            return count;
        }

        int longestRow() {
            int longest = 0;
            int row = 0;
            for (int place = 0; place < PLACES; place++) {
                if (place % LINES == 0) {
                    row = 0;
                }
                row = isInConflict(place) ? row + 1 : 0;
                longest = Math.max(longest, row);
            }
            return longest;
        }

        // -- what is aside

        void pushAside() {
            if (asideCount >= 0 && asideCount < ASIDES) {
                asideHeads[asideCount] = headCommit();
                System.arraycopy(work, 0, asideTrees, asideCount * PLACES, PLACES);
                asideCount++;
            }
        }

        /** A commit's tree never changes, so the number of the head at that time is enough. */
        int latestAsideHead() {
            int latest = asideCount - 1;
            return latest >= 0 && latest < ASIDES ? asideHeads[latest] : NONE;
        }

        void copyLatestAside(int[] row) {
            int latest = asideCount - 1;
            if (latest >= 0 && latest < ASIDES && row.length >= PLACES) {
                System.arraycopy(asideTrees, latest * PLACES, row, 0, PLACES);
            }
        }
    }

    /** The latest recorded states, in a ring of states that are used again and again. */
    private static final class Records {
        private final State[] ring = new State[RECORDS];
        private int oldest = 0;
        private int count = 0;

        Records() {
            for (int slot = 0; slot < RECORDS; slot++) {
                ring[slot] = new State();
            }
        }

        void add(State state) {
            if (count == RECORDS) {
                oldest = (oldest + 1) % RECORDS;
                count--;
            }
            State free = stateAt(count);
            if (free != null) {
                free.copyFrom(state);
                count++;
            }
        }

        void bringBack(State state) {
            State latest = stateAt(count - 1);
            if (latest != null) {
                state.copyFrom(latest);
                count--;
            }
        }

        private State stateAt(int age) {
            return age >= 0 && age < RECORDS ? ring[(oldest + age) % RECORDS] : null;
        }
    }

    /** The ways from commits to their parents; these have lower numbers, so one walk down meets all. */
    private static final class Histories {
        private static final int BY_ONE = 1;
        private static final int BY_OTHER = 2;
        private static final int BY_BOTH = 3;
        private static final int BELOW_COMMON = 4;

        private final int[] marks = new int[COMMITS];
        private final int[] otherMarks = new int[COMMITS];
        private final int[] steps = new int[COMMITS];

        boolean isReached(State state, int commit, int other) {
            Arrays.fill(marks, 0);
            markReached(state, commit, marks);
            return isMarked(marks, other);
        }

        int countReached(State state, int commit) {
            Arrays.fill(marks, 0);
            markReached(state, commit, marks);
            int count = 0;
            for (int at = 0; at < COMMITS; at++) {
                if (isMarked(marks, at)) {
                    count++;
                }
            }
            return count;
        }

        int reachedAt(State state, int commit, int place) {
            Arrays.fill(marks, 0);
            markReached(state, commit, marks);
            int ahead = 0;
            for (int at = COMMITS - 1; at >= 0; at--) {
                if (isMarked(marks, at)) {
                    if (ahead == place) {
                        return at;
                    }
                    ahead++;
                }
            }
            return NONE;
        }

        int lowestWith(State state, int commit, int place, int value) {
            Arrays.fill(marks, 0);
            markReached(state, commit, marks);
            for (int at = 0; at < COMMITS; at++) {
                if (isMarked(marks, at) && state.treeLine(at, place) == value) {
                    return at;
                }
            }
            return NONE;
        }

        int countUnreached(State state) {
            Arrays.fill(marks, 0);
            for (int branch = 0; branch < BRANCHES; branch++) {
                markReached(state, state.commitOf(branch), marks);
            }
            int count = 0;
            for (int at = 0; at < state.commitCount; at++) {
                if (!isMarked(marks, at)) {
                    count++;
                }
            }
            return count;
        }

        int fewestSteps(State state, int commit, int other) {
            Arrays.fill(steps, NONE);
            lowerSteps(commit, 0);
            for (int at = COMMITS - 1; at >= 0; at--) {
                if (stepsOf(at) != NONE) {
                    lowerSteps(state.parentOne(at), stepsOf(at) + 1);
                    lowerSteps(state.parentTwo(at), stepsOf(at) + 1);
                }
            }
            return stepsOf(other);
        }

        private int stepsOf(int commit) {
            return commit >= 0 && commit < COMMITS ? steps[commit] : NONE;
        }

        private void lowerSteps(int commit, int count) {
            if (commit >= 0 && commit < COMMITS && (steps[commit] == NONE || steps[commit] > count)) {
                steps[commit] = count;
            }
        }

        int mostSteps(State state, int commit) {
            for (int at = 0; at < COMMITS && at <= commit; at++) {
                // a parent that is missing counts -1, so that the commit 0 gets 0
                int most = Math.max(stepsOf(state.parentOne(at)), stepsOf(state.parentTwo(at)));
                steps[at] = most + 1;
            }
            return stepsOf(commit);
        }

        int commonByGoingDown(State state, int commit, int other) {
            Arrays.fill(marks, 0);
            addMark(marks, commit, BY_ONE);
            addMark(marks, other, BY_OTHER);
            for (int at = COMMITS - 1; at >= 0; at--) {
                if (marks[at] == BY_BOTH) {
                    return at;
                }
                addMark(marks, state.parentOne(at), marks[at]);
                addMark(marks, state.parentTwo(at), marks[at]);
            }
            return NONE;
        }

        int commonByMarks(State state, int commit, int other) {
            Arrays.fill(marks, 0);
            markReached(state, commit, marks);
            Arrays.fill(otherMarks, 0);
            markReached(state, other, otherMarks);
            for (int at = COMMITS - 1; at >= 0; at--) {
                if (isMarked(marks, at) && isMarked(otherMarks, at)) {
                    return at;
                }
            }
            return NONE;
        }

        int countBest(State state, int commit, int other) {
            Arrays.fill(marks, 0);
            addMark(marks, commit, BY_ONE);
            addMark(marks, other, BY_OTHER);
            int count = 0;
            for (int at = COMMITS - 1; at >= 0; at--) {
                if (marks[at] == BY_BOTH) {
                    count++;
                    marks[at] = BY_BOTH + BELOW_COMMON;
                }
                addMark(marks, state.parentOne(at), marks[at]);
                addMark(marks, state.parentTwo(at), marks[at]);
            }
            return count;
        }

        /** The commits from the head down the first parents, as long as the other commit does not reach them. */
        void markReplayed(State state, int onto, int[] replayed) {
            Arrays.fill(marks, 0);
            markReached(state, onto, marks);
            Arrays.fill(replayed, 0);
            int at = state.headCommit();
            for (int step = 0; step < COMMITS && at != NONE && !isMarked(marks, at); step++) {
                addMark(replayed, at, BY_ONE);
                at = state.parentOne(at);
            }
        }

        static boolean isMarked(int[] row, int commit) {
            return commit >= 0 && commit < row.length && row[commit] != 0;
        }

        private static void addMark(int[] row, int commit, int mark) {
            if (commit >= 0 && commit < row.length) {
                row[commit] |= mark;
            }
        }

        /** Adds to the marks that the row has, so that those of several commits can be gathered. */
        private static void markReached(State state, int commit, int[] row) {
            addMark(row, commit, BY_ONE);
            for (int at = Math.min(commit, row.length - 1); at >= 0; at--) {
                if (row[at] != 0) {
                    addMark(row, state.parentOne(at), BY_ONE);
                    addMark(row, state.parentTwo(at), BY_ONE);
                }
            }
        }
    }

    /** The change from an old tree to a new one, combined with a third tree. */
    private static final class Combination {
        private final int[] oldTree = new int[PLACES];
        private final int[] newTree = new int[PLACES];
        // the third tree at first, then what it becomes
        private final int[] tree = new int[PLACES];
        private final int[] otherSides = new int[PLACES];
        private int becoming = 0;
        private int conflicting = 0;

        void combine() {
            becoming = 0;
            conflicting = 0;
            for (int place = 0; place < PLACES; place++) {
                otherSides[place] = NONE;
                int fresh = newTree[place];
                if (fresh == oldTree[place] || fresh == tree[place]) {
                    continue;
                }
                if (tree[place] == oldTree[place]) {
                    tree[place] = fresh;
                    becoming++;
                } else {
                    otherSides[place] = fresh;
                    conflicting++;
                }
            }
        }

        boolean isEmpty() {
            return becoming == 0 && conflicting == 0;
        }
    }

    /** The state as it is now, and the changes of it: what may be done, and the doing of what may. */
    private static final class Repository {
        private final State now = new State();
        private final Histories histories = new Histories();
        private final Combination combination = new Combination();
        private final int[] replayed = new int[COMMITS];

        int doEdit(int place, int value) {
            now.setLine(place, value);
            return now.countChanged();
        }

        boolean mayCommit() {
            boolean hasMatter = now.open == MERGE_OPEN || now.countChanged() > 0;
            return hasMatter && now.countConflicts() == 0 && now.hasRoom();
        }

        int doCommit() {
            return now.addCommit(now.open == MERGE_OPEN ? now.mergedCommit : NONE);
        }

        int doReset(int commit) {
            int before = now.headCommit();
            now.standAt(commit);
            return before;
        }

        boolean mayPutAside() {
            return now.open == NOTHING_OPEN && now.countChanged() > 0 && now.asideCount < ASIDES;
        }

        int doPutAside() {
            now.pushAside();
            now.standAt(now.headCommit());
            return now.asideCount;
        }

        boolean mayTakeBack() {
            if (now.asideCount == 0 || now.open != NOTHING_OPEN) {
                return false;
            }
            combineWithAside();
            return combination.conflicting == 0;
        }

        int doTakeBack() {
            combineWithAside();
            takeCombined();
            now.asideCount--;
            return combination.becoming;
        }

        boolean mayBranch() {
            return now.lowestFreeBranch() != NONE;
        }

        int doBranch() {
            int branch = now.lowestFreeBranch();
            now.setBranch(branch, now.headCommit());
            return branch;
        }

        boolean mayDrop(int branch) {
            return now.hasBranch(branch) && branch != now.currentBranch;
        }

        int doDrop(int branch) {
            int before = now.commitOf(branch);
            now.setBranch(branch, NONE);
            return before;
        }

        boolean maySwitch(int branch) {
            return now.hasBranch(branch) && branch != now.currentBranch && now.isAtRest();
        }

        int doSwitch(int branch) {
            now.currentBranch = branch;
            now.standAt(now.headCommit());
            return now.headCommit();
        }

        boolean mayMerge(int branch) {
            return mayGoOnTo(branch) && (isAhead(now.commitOf(branch)) || now.hasRoom());
        }

        int doMerge(int branch) {
            int other = now.commitOf(branch);
            if (isAhead(other)) {
                now.standAt(other);
                return 0;
            }
            combineWithHead(other);
            return settle(MERGE_OPEN, other);
        }

        boolean mayPick(int commit, boolean isBackwards) {
            if (!now.hasCommit(commit) || commit == 0 || !now.isAtRest() || !now.hasRoom()) {
                return false;
            }
            combineWithWork(commit, isBackwards);
            return !combination.isEmpty();
        }

        int doPick(int commit, boolean isBackwards) {
            combineWithWork(commit, isBackwards);
            return settle(PICK_OPEN, NONE);
        }

        /** The commits are picked in a trial, on a tree alone, for a replay that fails may change nothing. */
        boolean mayReplay(int branch) {
            if (!mayGoOnTo(branch)) {
                return false;
            }
            int onto = now.commitOf(branch);
            int total = now.commitCount;
            histories.markReplayed(now, onto, replayed);
            now.copyTree(onto, combination.tree);
            for (int commit = 0; commit < COMMITS; commit++) {
                if (Histories.isMarked(replayed, commit)) {
                    readChange(commit, false);
                    combination.combine();
                    total += combination.becoming > 0 ? 1 : 0;
                    if (combination.conflicting > 0 || total > COMMITS) {
                        return false;
                    }
                }
            }
            return true;
        }

        int doReplay(int branch) {
            int made = 0;
            int onto = now.commitOf(branch);
            histories.markReplayed(now, onto, replayed);
            now.standAt(onto);
            for (int commit = 0; commit < COMMITS; commit++) {
                if (Histories.isMarked(replayed, commit)) {
                    combineWithWork(commit, false);
                    if (combination.becoming > 0) {
                        takeCombined();
                        now.addCommit(NONE);
                        made++;
                    }
                }
            }
            return made;
        }

        int doResolve(int place, boolean isTheirs) {
            now.setLine(place, isTheirs ? now.otherSide(place) : now.workLine(place));
            return now.countConflicts();
        }

        boolean mayAbort() {
            return now.open != NOTHING_OPEN;
        }

        int doAbort() {
            int before = now.countConflicts();
            now.standAt(now.headCommit());
            return before;
        }

        /** What merge and replay ask for alike. */
        private boolean mayGoOnTo(int branch) {
            return now.hasBranch(branch) && now.isAtRest()
                && !histories.isReached(now, now.headCommit(), now.commitOf(branch));
        }

        private boolean isAhead(int commit) {
            return histories.isReached(now, commit, now.headCommit());
        }

        /** The change from the base to the other commit; a merge begins with a clean working tree. */
        void combineWithHead(int other) {
            int head = now.headCommit();
            now.copyTree(histories.commonByGoingDown(now, head, other), combination.oldTree);
            now.copyTree(other, combination.newTree);
            now.copyTree(head, combination.tree);
            combination.combine();
        }

        private void combineWithWork(int commit, boolean isBackwards) {
            readChange(commit, isBackwards);
            System.arraycopy(now.work, 0, combination.tree, 0, PLACES);
            combination.combine();
        }

        private void combineWithAside() {
            now.copyTree(now.latestAsideHead(), combination.oldTree);
            now.copyLatestAside(combination.newTree);
            System.arraycopy(now.work, 0, combination.tree, 0, PLACES);
            combination.combine();
        }

        private void readChange(int commit, boolean isBackwards) {
            int parent = now.parentOne(commit);
            now.copyTree(isBackwards ? commit : parent, combination.oldTree);
            now.copyTree(isBackwards ? parent : commit, combination.newTree);
        }

        private void takeCombined() {
            System.arraycopy(combination.tree, 0, now.work, 0, PLACES);
            System.arraycopy(combination.otherSides, 0, now.otherSides, 0, PLACES);
        }

        /** With conflicts it is open; without one it is committed at once. */
        private int settle(int kind, int merged) {
            takeCombined();
            if (combination.conflicting == 0) {
                now.addCommit(merged);
                return 0;
            }
            now.open = kind;
            now.mergedCommit = merged;
            now.conflictsSoFar += combination.conflicting;
            return combination.conflicting;
        }
    }
}
