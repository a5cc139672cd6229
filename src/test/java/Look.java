/**
 * What can be seen of an object, as a text. What lies hidden (records, snapshot, what is aside, the
 * pad) is brought to light by changes, so each way of looking wants an object of its own.
 */
final class Look {
    static final int WAYS = 5;

    private Look() {
    }

    static String by(int way, BranchedSource x) {
        switch (way) {
            case 0:
                return atNow(x);
            case 1:
                return atRecords(x);
            case 2:
                return atSnapshot(x);
            case 3:
                return atAsides(x);
            default:
                return atPad(x);
        }
    }

    /** All that questions tell; of the trees of many commits the last three wholly, so that the calls stay few. */
    static String atNow(BranchedSource x) {
        StringBuilder text = new StringBuilder(briefly(x));
        int commits = x.commits();
        for (int commit = 0; commit < commits; commit++) {
            text.append(commit).append(':').append(x.firstParent(commit)).append(',').append(x.secondParent(commit));
            text.append('/').append(x.differences(commit, 0)).append(' ');
        }
        for (int commit = Math.max(0, commits - 3); commit < commits; commit++) {
            for (int place = 0; place < 24; place++) {
                text.append(x.lineAt(commit, place / 6, place % 6)).append(' ');
            }
        }
        return text.toString();
    }

    private static String briefly(BranchedSource x) {
        StringBuilder text = new StringBuilder();
        for (int place = 0; place < 24; place++) {
            text.append(x.lineOf(place / 6, place % 6));
            text.append(x.isConflict(place / 6, place % 6) ? "!" + x.theirs(place / 6, place % 6) : "").append(' ');
        }
        for (int branch = 0; branch < 6; branch++) {
            text.append(x.isBranch(branch) ? x.standsAt(branch) : -1).append(' ');
        }
        text.append("current ").append(x.current()).append(", commits ").append(x.commits());
        text.append(", aside ").append(x.aside()).append(", merges ").append(x.merges());
        text.append(", all conflicts ").append(x.allConflicts()).append(", lost ").append(x.lost());
        text.append(", changed ").append(x.changed());
        text.append(x.isMerging() ? ", merging" : "").append(x.isPicking() ? ", picking" : "").append('\n');
        return text.toString();
    }

    private static String atRecords(BranchedSource x) {
        StringBuilder text = new StringBuilder();
        for (int count = 0; count < 6; count++) {
            try {
                text.append(x.undo()).append(" left: ").append(briefly(x));
            } catch (IllegalStateException e) {
                return text.toString();
            }
        }
        return text.append("more than 4 are recorded").toString();
    }

    private static String atSnapshot(BranchedSource x) {
        try {
            return x.goBack() + ": " + atNow(x);
        } catch (IllegalStateException e) {
            return "no snapshot";
        }
    }

    /** From the commit 0 nothing stands in the way of what was put aside there. */
    private static String atAsides(BranchedSource x) {
        StringBuilder text = new StringBuilder();
        for (int count = 0; count < 4; count++) {
            x.reset(0);
            try {
                text.append(x.takeBack()).append(": ").append(briefly(x));
            } catch (IllegalStateException e) {
                return text.append("no more").toString();
            }
        }
        return text.append("more than 3 are aside").toString();
    }

    /** The orders tell by what they do which characters the pad has. */
    private static String atPad(BranchedSource x) {
        StringBuilder text = new StringBuilder("fault ").append(x.fault());
        x.reset(0);
        try {
            text.append(", orders ").append(x.runOrders()).append(": ").append(briefly(x));
        } catch (IllegalStateException e) {
            text.append(", no orders");
        }
        return text.append(", length ").append(x.clearPad()).toString();
    }
}
