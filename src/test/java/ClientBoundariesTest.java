/**
 * The boundary cases that ../shared/DOC.md names for the clients: promises 1 to 4, with the groups that they join, the
 * wait that these teach, and the failures. A test bears the sentence that it is about; no object has over 512 calls.
 */
public final class ClientBoundariesTest {
    private static final int NO_SUCH = -1, BAD_VALUE = -2, TOO_MANY = -3, NOT_POSSIBLE = -4, NONE = -5;
    private static final int MOST = 0, FULL_SIZE = 1, FIXED = 2, LEARN = 3;
    private static final int GATHERING = 1, QUEUED = 2, BEING_WRITTEN = 3, WRITTEN = 4, GONE = 5;
    private static final int ANSWERED = 4, LOST = 5, WITHDRAWN = 6;
    private static final int URGENT = 1, FULL = 2, ENDED = 3;

    private static int wrong = 0;
    private static String sentence = "";

    private static void due(String what, double got, double want) {
        if (Double.compare(got, want) != 0) {
            wrong++;
            System.out.println(sentence + " | " + what + ": answered " + got + ", due is " + want);
        }
    }

    /** Just outside of a range, far outside, the ends of int, and what falls into the range if high bits are cut off. */
    private static int[] outside(int least, int greatest) {
        return new int[] {least - 1, least - 2, least - 1000, Integer.MIN_VALUE, Integer.MIN_VALUE + least,
            greatest + 1, greatest + 2, greatest + 1000, Integer.MAX_VALUE, Integer.MAX_VALUE - 1,
            least + 256, greatest + 256, least + 65536, greatest + 65536, least - 256, greatest - 65536};
    }

    /** 150 commits of which none is open: withdrawn, lost, lost by a crash and answered ones. */
    private static GroupCommits fullLog() {
        GroupCommits log = new GroupCommits();
        log.set(LEARN, 0);
        for (int i = 0; i < 150; i++) {
            due("commit " + i, log.submit(i % 12, 1 + i % 8, i % 4 == 3), i);
            switch (i % 4) {
                case 0:
                    log.withdraw(i % 12);
                    break;
                case 1:
                    log.fail(i % 12);
                    break;
                case 2:
                    log.crash();
                    break;
                default:
                    log.tick(99);
            }
        }
        return log;
    }

    /** A log whose wait is as given, whose settings are as at first but for LEARN, and of which no client is busy. */
    private static GroupCommits withWait(int wait) {
        GroupCommits log = new GroupCommits();
        log.set(MOST, 20);
        for (int round = 2; round < wait; round++) {
            log.submit(0, 1, false);
            log.submit(1, 1, true);
            log.tick(4);
        }
        for (int round = 2; round > wait; round--) {
            log.submit(0, 1, true);
            log.tick(4);
        }
        log.set(MOST, 6);
        due("the wait that a test needs", log.count(1), wait);
        return log;
    }

    public static void main(String[] args) {
        newObjects();
        submitClients();
        submitRecords();
        busyOrNot();
        mostCommits();
        codesOfSubmit();
        groupNumbers();
        fullSizes();
        reasonsInTheirOrder();
        ends();
        waitUpwards();
        waitDownwards();
        waitAboveMost();
        whatTeaches();
        failClients();
        failNotBusy();
        failGathering();
        failClosed();
        withdrawClients();
        withdrawNotPossible();
        withdrawCounts();
        leaderTakenOut();
        nextTickAtTheEarliest();
        lastMemberTakenOut();
        System.out.println(wrong == 0 ? "all answers are as due" : wrong + " answers are not as due");
        if (wrong != 0) {
            System.exit(1);
        }
    }

    private static void dueNew(String when, GroupCommits log) {
        int[] counts = {0, 2, NONE, NONE, 0, 0, 6, 16, 4, 1, 0, 0};
        for (int what = 0; what < counts.length; what++) {
            due(when + ", count " + what, log.count(what), counts[what]);
        }
        for (int what = 0; what < 8; what++) {
            due(when + ", total " + what, log.total(what), 0);
        }
        for (int client = 0; client < 12; client++) {
            due(when + ", open " + client, log.open(client), NONE);
            due(when + ", answered in " + client, log.answeredIn(client), NONE);
        }
        for (int what = 0; what < 7; what++) {
            due(when + ", commit 0, " + what, log.commit(0, what), NO_SUCH);
            due(when + ", group 0, " + what, log.group(0, what), NO_SUCH);
        }
        due(when + ", member", log.member(0, 0), NO_SUCH);
        due(when + ", queued", log.queued(0), NONE);
        due(when + ", idle", log.idleIn(), 0);
        due(when + ", mean", log.mean(), 0.0);
        due(when + ", fault", log.fault(), 0);
        due(when + ", run", log.run(), -100);
        due(when + ", restore", log.restore(), NOT_POSSIBLE);
        due(when + ", undo", log.undo(), NONE);
        due(when + ", clear", log.clearText(), 0);
    }

    private static void newObjects() {
        sentence = "promise 1: a log without commits, at the time 0, an empty text and history, no snapshot";
        dueNew("new", new GroupCommits());
        GroupCommits before = new GroupCommits();
        GroupCommits other = new GroupCommits();
        other.append('*');
        other.set(MOST, 0);
        other.set(FULL_SIZE, 1);
        other.set(FIXED, 1);
        other.set(LEARN, 0);
        other.submit(0, 8, true);
        other.save();
        other.tick(99);
        dueNew("made before another was used", before);
        dueNew("made after another was used", new GroupCommits());
        due("the other one's time", other.count(0), 99);
    }

    private static void submitClients() {
        sentence = "submit: NO_SUCH if there is no such client (0 to 11)";
        GroupCommits log = new GroupCommits();
        for (int client : outside(0, 11)) {
            due("client " + client, log.submit(client, 1, false), NO_SUCH);
            due("urgent client " + client, log.submit(client, 8, true), NO_SUCH);
        }
        due("nothing is submitted", log.total(0), 0);
        due("no group began", log.total(4), 0);
        for (int client = 0; client < 12; client++) {
            due("client " + client, log.submit(client, 1, false), client);
            due("its open commit", log.open(client), client);
            due("busy clients", log.count(5), client + 1);
        }
        due("one group", log.group(0, 1), 12);
        due("12 of 16 records", log.group(0, 0), GATHERING);
    }

    private static void submitRecords() {
        sentence = "submit: BAD_VALUE if records is out of range (1 to 8)";
        GroupCommits log = new GroupCommits();
        log.set(FULL_SIZE, 40);
        for (int records : outside(1, 8)) {
            due("records " + records, log.submit(0, records, false), BAD_VALUE);
            due("urgent records " + records, log.submit(11, records, true), BAD_VALUE);
        }
        due("records 0", log.submit(0, 0, true), BAD_VALUE);
        due("nothing is submitted", log.total(0), 0);
        for (int records = 1; records <= 8; records++) {
            due("records " + records, log.submit(records, records, false), records - 1);
            due("its records", log.commit(records - 1, 1), records);
        }
        due("together", log.group(0, 2), 36);
    }

    private static void busyOrNot() {
        sentence = "a client is busy if one of its commits is gathering, queued or being written";
        GroupCommits log = new GroupCommits();
        log.set(LEARN, 0);
        log.set(FIXED, 10);
        log.submit(0, 1, true);
        log.submit(1, 1, true);
        log.submit(2, 1, false);
        int[] states = {BEING_WRITTEN, QUEUED, GATHERING};
        for (int client = 0; client < 3; client++) {
            due("state of " + client, log.commit(client, 3), states[client]);
            due("submit by " + client, log.submit(client, 1, false), NOT_POSSIBLE);
            due("urgent submit by " + client, log.submit(client, 8, true), NOT_POSSIBLE);
            due("open of " + client, log.open(client), client);
        }
        due("busy clients", log.count(5), 3);
        log.withdraw(2);
        due("withdrawn, so not busy", log.submit(2, 1, false), 3);
        log.fail(1);
        due("lost, so not busy", log.submit(1, 1, false), 4);
        log.tick(9);
        due("not answered before the last tick", log.submit(0, 1, false), NOT_POSSIBLE);
        log.tick(1);
        due("answered, so not busy", log.submit(0, 1, false), 5);
        log.crash();
        for (int client = 0; client < 3; client++) {
            due("lost by a crash, so not busy", log.submit(client, 1, false), 6 + client);
        }
    }

    private static void mostCommits() {
        sentence = "submit: TOO_MANY if 150 commits have been submitted; at most 150 can ever be submitted";
        GroupCommits log = fullLog();
        due("none is busy", log.count(5), 0);
        for (int client = 0; client < 12; client++) {
            due("client " + client, log.submit(client, 1, false), TOO_MANY);
            due("urgent client " + client, log.submit(client, 1, true), TOO_MANY);
        }
        log.tick(99);
        due("ticks make no room", log.submit(0, 1, false), TOO_MANY);
        log.crash();
        due("a crash makes no room", log.submit(0, 1, false), TOO_MANY);
        due("150 were submitted", log.total(0), 150);
        due("the last one", log.commit(149, 0), 149 % 12);
        due("no 151st", log.commit(150, 0), NO_SUCH);
        GroupCommits last = new GroupCommits();
        for (int i = 0; i < 149; i++) {
            last.submit(0, 1, false);
            last.withdraw(0);
        }
        last.save();
        due("the 150th", last.submit(0, 1, false), 149);
        due("no 151st", last.submit(1, 1, false), TOO_MANY);
        last.restore();
        due("the 150th after restoring", last.submit(3, 1, true), 149);
        due("no 151st", last.submit(4, 1, false), TOO_MANY);
        last.undo();
        due("the 150th after undoing", last.submit(5, 1, true), 149);
        due("each in a group of its own", last.commit(149, 6), 149);
    }

    private static void codesOfSubmit() {
        sentence = "submit: NO_SUCH, BAD_VALUE, NOT_POSSIBLE, TOO_MANY are checked in this order";
        GroupCommits log = new GroupCommits();
        log.submit(0, 1, true);
        for (int client : outside(0, 11)) {
            for (int records : outside(1, 8)) {
                due("client before records", log.submit(client, records, true), NO_SUCH);
            }
        }
        for (int records : outside(1, 8)) {
            due("records before busy", log.submit(0, records, true), BAD_VALUE);
        }
        GroupCommits full = new GroupCommits();
        for (int i = 0; i < 149; i++) {
            full.submit(0, 1, false);
            full.withdraw(0);
        }
        full.submit(7, 1, false);
        due("client before too many", full.submit(12, 1, false), NO_SUCH);
        due("client before too many", full.submit(-1, 1, false), NO_SUCH);
        due("client before all", full.submit(12, 9, false), NO_SUCH);
        due("records before too many", full.submit(0, 0, false), BAD_VALUE);
        due("records before too many", full.submit(0, 9, false), BAD_VALUE);
        due("records before busy and too many", full.submit(7, 9, false), BAD_VALUE);
        due("busy, gathering, before too many", full.submit(7, 1, false), NOT_POSSIBLE);
        due("too many", full.submit(6, 1, false), TOO_MANY);
        full.tick(2);
        due("busy, being written, before too many", full.submit(7, 1, true), NOT_POSSIBLE);
        full.tick(4);
        due("answered, so too many", full.submit(7, 1, true), TOO_MANY);
    }

    private static void groupNumbers() {
        sentence = "groups are numbered from 0, in the order in which they began; one is gathering at most";
        GroupCommits log = new GroupCommits();
        log.submit(0, 1, false);
        log.withdraw(0);
        log.submit(0, 1, false);
        log.fail(0);
        log.submit(0, 1, false);
        log.crash();
        log.submit(0, 1, true);
        log.submit(1, 1, false);
        log.submit(2, 1, false);
        int[] groups = {0, 1, 2, 3, 4, 4};
        for (int commit = 0; commit < groups.length; commit++) {
            due("group of " + commit, log.commit(commit, 6), groups[commit]);
        }
        int[] states = {GONE, GONE, GONE, BEING_WRITTEN, GATHERING};
        for (int group = 0; group < states.length; group++) {
            due("state of " + group, log.group(group, 0), states[group]);
        }
        due("groups that began", log.total(4), 5);
        due("the gathering one", log.count(2), 4);
        GroupCommits full = new GroupCommits();
        for (int i = 0; i < 150; i++) {
            full.submit(i % 12, 1, false);
            full.withdraw(i % 12);
        }
        due("150 groups", full.total(4), 150);
        due("the last one", full.group(149, 0), GONE);
        due("no 151st", full.group(150, 0), NO_SUCH);
    }

    /** Gathers records until one is missing, and adds as many as are given. */
    private static int reasonAfter(int fullSize, int last) {
        GroupCommits log = new GroupCommits();
        log.set(FULL_SIZE, fullSize);
        int missing = fullSize - 1;
        int client = 0;
        while (missing > 0) {
            int records = Math.min(missing, 8);
            log.submit(client, records, false);
            due("below " + fullSize + " it gathers", log.count(2), 0);
            due("below " + fullSize + " it has no reason", log.group(0, 5), 0);
            missing -= records;
            client++;
        }
        log.submit(client, last, false);
        due("the records of " + fullSize, log.group(0, 2), fullSize - 1 + last);
        return log.group(0, 5);
    }

    private static void fullSizes() {
        sentence = "reason 2: its members have FULL_SIZE or more records together";
        for (int fullSize = 1; fullSize <= 40; fullSize++) {
            due("exactly " + fullSize, reasonAfter(fullSize, 1), FULL);
            due("one more than " + fullSize, reasonAfter(fullSize, 2), FULL);
            due("seven more than " + fullSize, reasonAfter(fullSize, 8), FULL);
        }
        GroupCommits log = new GroupCommits();
        log.submit(0, 8, false);
        log.submit(1, 7, false);
        log.withdraw(0);
        log.submit(2, 8, false);
        due("what was taken out does not count", log.group(0, 0), GATHERING);
        log.set(FULL_SIZE, 15);
        due("a setting closes nothing", log.group(0, 0), GATHERING);
        log.withdraw(1);
        log.set(FULL_SIZE, 1);
        log.tick(1);
        due("nor does a tick before the end", log.group(0, 0), GATHERING);
        log.submit(3, 1, false);
        due("the next member does", log.group(0, 5), FULL);
    }

    private static void reasonsInTheirOrder() {
        sentence = "the first of the reasons that applies is the reason why it closed";
        for (int records = 1; records <= 8; records++) {
            GroupCommits log = withWait(0);
            int group = log.total(4);
            log.set(FULL_SIZE, 8);
            log.submit(0, records, true);
            due("urgent before all, " + records, log.group(group, 5), URGENT);
            log.submit(1, records, false);
            due("full before the end, " + records, log.group(group + 1, 5), records == 8 ? FULL : ENDED);
        }
        GroupCommits log = new GroupCommits();
        log.submit(0, 8, false);
        log.submit(1, 8, true);
        due("urgent before full", log.group(0, 5), URGENT);
        log.submit(2, 8, false);
        log.submit(3, 8, false);
        due("full", log.group(1, 5), FULL);
        log.submit(4, 1, true);
        due("urgent alone", log.group(2, 5), URGENT);
        log.submit(5, 1, false);
        due("none", log.group(3, 5), 0);
    }

    private static void ends() {
        sentence = "a new group's end is the time plus the wait; it closes if its end is not later than the time";
        for (int wait = 1; wait <= 20; wait++) {
            GroupCommits log = withWait(wait);
            int group = log.total(4);
            int time = log.count(0);
            log.submit(0, 1, false);
            due("end at the wait " + wait, log.group(group, 4), time + wait);
            if (wait > 1) {
                log.tick(wait - 1);
                log.submit(1, 1, false);
                due("a further member moves no end", log.group(group, 4), time + wait);
            }
            due("one tick before it", log.group(group, 0), GATHERING);
            log.tick(1);
            due("at it", log.group(group, 5), ENDED);
            due("it has no end any more", log.group(group, 4), NONE);
        }
        GroupCommits log = withWait(0);
        int group = log.total(4);
        log.submit(0, 1, false);
        due("at the wait 0 it closes at once", log.group(group, 5), ENDED);
        due("and is being written", log.count(3), group);
        log.submit(1, 1, false);
        due("the next one too", log.group(group + 1, 5), ENDED);
        due("and is queued", log.queued(0), group + 1);
        due("none gathers", log.count(2), NONE);
    }

    private static void waitUpwards() {
        sentence = "if the group has more than one member, the wait becomes 1 more, but at most MOST";
        for (int most = 2; most <= 20; most++) {
            GroupCommits log = new GroupCommits();
            log.set(MOST, most);
            for (int round = 1; round <= most; round++) {
                log.submit(0, 1, false);
                log.submit(1, 1, true);
                due("MOST " + most + ", round " + round, log.count(1), Math.min(2 + round, most));
                log.tick(4);
            }
        }
        GroupCommits twelve = new GroupCommits();
        for (int client = 0; client < 12; client++) {
            twelve.submit(client, 1, client == 11);
        }
        due("twelve members", twelve.group(0, 1), 12);
        due("1 more for them", twelve.count(1), 3);
        GroupCommits back = withWait(0);
        back.submit(0, 1, true);
        due("0 stays 0", back.count(1), 0);
        back.set(MOST, 0);
        back.submit(1, 1, true);
        due("0 stays 0 with MOST 0", back.count(1), 0);
    }

    private static void waitDownwards() {
        sentence = "otherwise it becomes 1 less, but at least 0";
        GroupCommits log = new GroupCommits();
        int[] waits = {1, 0, 0, 0};
        for (int round = 0; round < waits.length; round++) {
            log.submit(round, 1, true);
            due("round " + round, log.count(1), waits[round]);
        }
        GroupCommits high = withWait(20);
        for (int wait = 19; wait >= -1; wait--) {
            high.submit(0, 8, true);
            high.tick(6);
            due("from above", high.count(1), Math.max(wait, 0));
        }
    }

    private static void waitAboveMost() {
        sentence = "the wait may be above MOST; then, if the group has more than one member, it becomes MOST";
        for (int most = 0; most <= 20; most++) {
            GroupCommits log = withWait(20);
            log.set(MOST, most);
            due("a setting leaves the wait", log.count(1), 20);
            log.submit(0, 1, false);
            log.submit(1, 1, true);
            due("two members, MOST " + most, log.count(1), most);
            log = withWait(20);
            log.set(MOST, most);
            log.submit(0, 1, true);
            due("one member, MOST " + most, log.count(1), 19);
        }
        GroupCommits log = new GroupCommits();
        log.set(MOST, 0);
        log.submit(0, 1, false);
        due("the end as the wait is", log.group(0, 4), 2);
        log.tick(2);
        due("one member, 2 and 0", log.count(1), 1);
        log.submit(1, 1, false);
        log.submit(2, 1, true);
        due("two members, 1 and 0", log.count(1), 0);
    }

    private static void whatTeaches() {
        sentence = "if LEARN is 1, the wait is learned when a group closes";
        for (int learn = 0; learn <= 1; learn++) {
            for (int reason = URGENT; reason <= ENDED; reason++) {
                GroupCommits log = new GroupCommits();
                log.set(LEARN, learn);
                log.set(FULL_SIZE, 8);
                log.submit(0, 1, false);
                log.submit(1, reason == FULL ? 7 : 1, reason == URGENT);
                log.tick(reason == ENDED ? 2 : 1);
                due("two members by reason " + reason, log.group(0, 5), reason);
                due("LEARN " + learn, log.count(1), 2 + learn);
                log.submit(2, reason == FULL ? 8 : 1, reason == URGENT);
                log.tick(3);
                due("one member by reason " + reason, log.group(1, 5), reason);
                due("LEARN " + learn, log.count(1), 2);
            }
        }
        GroupCommits one = new GroupCommits();
        one.submit(0, 1, false);
        one.submit(1, 1, false);
        one.submit(2, 1, false);
        one.fail(0);
        one.withdraw(2);
        due("taking out teaches nothing", one.count(1), 2);
        one.tick(1);
        due("nor a tick", one.count(1), 2);
        one.tick(1);
        due("who was taken out is no member", one.count(1), 1);
        one.tick(4);
        due("being written teaches nothing", one.count(1), 1);
        one.submit(3, 1, false);
        one.withdraw(3);
        due("a group that is gone teaches nothing", one.count(1), 1);
        one.submit(3, 1, false);
        one.submit(4, 1, false);
        one.crash();
        due("nor one that crashes", one.count(1), 1);
        GroupCommits queued = new GroupCommits();
        queued.set(FIXED, 20);
        queued.submit(0, 1, true);
        queued.submit(1, 1, false);
        queued.submit(2, 1, true);
        due("1 less and 1 more", queued.count(1), 2);
        queued.fail(1);
        queued.fail(2);
        queued.tick(99);
        due("failing later teaches nothing", queued.count(1), 2);
    }

    private static void failClients() {
        sentence = "fail: NO_SUCH if there is no such client (0 to 11)";
        GroupCommits log = new GroupCommits();
        for (int client = 0; client < 12; client++) {
            log.submit(client, 1, false);
        }
        for (int client : outside(0, 11)) {
            due("client " + client, log.fail(client), NO_SUCH);
        }
        due("nothing is lost", log.total(2), 0);
        due("12 are busy", log.count(5), 12);
        for (int client = 11; client >= 0; client--) {
            due("client " + client, log.fail(client), client);
            due("lost", log.commit(client, 3), LOST);
            due("busy clients", log.count(5), client);
        }
        GroupCommits full = new GroupCommits();
        for (int i = 0; i < 150; i++) {
            full.submit(0, 1, false);
            due("the commit that is lost", full.fail(0), i);
        }
    }

    private static void failNotBusy() {
        sentence = "fail: NONE if the client is not busy (this is an action all the same)";
        GroupCommits log = new GroupCommits();
        for (int client = 0; client < 12; client++) {
            due("never submitted, " + client, log.fail(client), NONE);
            due("history", log.count(10), Math.min(client + 1, 4));
        }
        log.submit(0, 1, true);
        log.submit(1, 1, false);
        log.submit(2, 1, false);
        log.withdraw(1);
        log.fail(2);
        log.tick(4);
        due("answered", log.fail(0), NONE);
        due("withdrawn", log.fail(1), NONE);
        due("lost", log.fail(2), NONE);
        due("it stays answered", log.commit(0, 3), ANSWERED);
        due("it stays withdrawn", log.commit(1, 3), WITHDRAWN);
        due("one is lost", log.total(2), 1);
        due("undo of the last", log.undo(), 3);
        due("of the one before", log.undo(), 2);
        due("and of the first", log.undo(), 1);
        due("undo of the ticks", log.undo(), 0);
        due("the time before them", log.count(0), 0);
    }

    private static void failGathering() {
        sentence = "when a client fails: a gathering commit is taken out of its group, and is lost";
        for (int failing = 0; failing < 3; failing++) {
            GroupCommits log = new GroupCommits();
            for (int client = 0; client < 3; client++) {
                log.submit(client, 1 + client, false);
            }
            due("commit", log.fail(failing), failing);
            due("members", log.group(0, 1), 2);
            due("records", log.group(0, 2), 6 - 1 - failing);
            due("first", log.member(0, 0), failing == 0 ? 1 : 0);
            due("second", log.member(0, 1), failing == 2 ? 1 : 2);
            due("no third", log.member(0, 2), NONE);
            due("it was of the group", log.commit(failing, 6), 0);
            due("it was not answered", log.commit(failing, 5), NONE);
            due("the others are answered", log.tick(9), 2);
            due("their records are on the disk", log.total(6), 6 - 1 - failing);
            due("it is lost yet", log.commit(failing, 3), LOST);
        }
    }

    private static void failClosed() {
        sentence = "one that is queued or being written is lost, but remains a member (its records come to the disk)";
        GroupCommits log = new GroupCommits();
        log.submit(0, 8, true);
        log.submit(1, 3, false);
        log.submit(2, 4, true);
        due("being written", log.fail(0), 0);
        due("queued, a first member", log.fail(1), 1);
        for (int commit = 0; commit < 2; commit++) {
            due("lost " + commit, log.commit(commit, 3), LOST);
            due("not busy", log.open(commit), NONE);
        }
        due("members of the one", log.group(0, 1), 1);
        due("its member", log.member(0, 0), 0);
        due("its records", log.group(0, 2), 8);
        due("it is being written yet", log.count(3), 0);
        due("its ticks", log.group(0, 6), 6);
        due("members of the other", log.group(1, 1), 2);
        due("its first member", log.member(1, 0), 1);
        due("it is queued yet", log.queued(0), 1);
        due("none is answered", log.tick(6), 0);
        due("though it is written", log.group(0, 0), WRITTEN);
        due("8 records", log.total(6), 8);
        due("ticks for all its records", log.group(1, 6), 5);
        due("the lost one stays lost when it is written", log.commit(1, 3), LOST);
        due("one is answered", log.tick(5), 1);
        due("15 records", log.total(6), 15);
        due("two groups", log.total(5), 2);
        due("lost", log.total(2), 2);
        due("answered", log.total(1), 1);
        due("no time of an answer", log.commit(1, 5), NONE);
        GroupCommits again = new GroupCommits();
        again.submit(0, 1, true);
        again.fail(0);
        due("it can submit again", again.submit(0, 2, true), 1);
        due("in the queue", again.queued(0), 1);
        due("the written group answers no new commit", again.tick(4), 0);
        due("it is open", again.open(0), 1);
        due("its own group does", again.tick(4), 1);
        due("once", again.total(1), 1);
    }

    private static void withdrawClients() {
        sentence = "withdraw: NO_SUCH if there is no such client (0 to 11)";
        GroupCommits log = new GroupCommits();
        for (int client : outside(0, 11)) {
            due("client " + client, log.withdraw(client), NO_SUCH);
        }
        for (int client = 0; client < 12; client++) {
            log.submit(client, 1, false);
        }
        for (int client : outside(0, 11)) {
            due("client " + client, log.withdraw(client), NO_SUCH);
        }
        due("nothing is withdrawn", log.total(3), 0);
        due("12 are busy", log.count(5), 12);
    }

    private static void withdrawNotPossible() {
        sentence = "withdraw: NOT_POSSIBLE if the client has no commit that is gathering";
        GroupCommits log = new GroupCommits();
        for (int client = 0; client < 12; client++) {
            due("never submitted, " + client, log.withdraw(client), NOT_POSSIBLE);
        }
        log.submit(0, 1, true);
        due("being written", log.withdraw(0), NOT_POSSIBLE);
        log.submit(1, 1, true);
        due("queued", log.withdraw(1), NOT_POSSIBLE);
        log.submit(2, 8, false);
        due("closed by its end", log.withdraw(2), NOT_POSSIBLE);
        log.fail(1);
        due("lost in the queue", log.withdraw(1), NOT_POSSIBLE);
        log.tick(4);
        due("answered", log.withdraw(0), NOT_POSSIBLE);
        GroupCommits other = new GroupCommits();
        other.submit(0, 1, false);
        other.submit(1, 1, false);
        other.submit(2, 1, false);
        due("another has one", other.withdraw(3), NOT_POSSIBLE);
        due("gathering", other.withdraw(2), 2);
        due("withdrawn", other.withdraw(2), NOT_POSSIBLE);
        other.fail(1);
        due("lost", other.withdraw(1), NOT_POSSIBLE);
        other.crash();
        due("lost by a crash", other.withdraw(0), NOT_POSSIBLE);
        due("withdrawn", other.total(3), 1);
    }

    private static void withdrawCounts() {
        sentence = "withdraw returns the number of members that the group has left";
        GroupCommits log = new GroupCommits();
        for (int client = 0; client < 12; client++) {
            log.submit(client, 1, false);
        }
        for (int left = 11; left >= 0; left--) {
            int client = (5 * left) % 12;
            due("left", log.withdraw(client), left);
            due("members", log.group(0, 1), left);
            due("records", log.group(0, 2), left);
            due("withdrawn", log.commit(client, 3), WITHDRAWN);
            due("total", log.total(3), 12 - left);
            due("busy clients", log.count(5), left);
        }
        due("none is lost", log.total(2), 0);
        due("the group is gone", log.group(0, 0), GONE);
    }

    private static int takeOut(GroupCommits log, int client, boolean isFailing) {
        return isFailing ? log.fail(client) : log.withdraw(client);
    }

    private static void leaderTakenOut() {
        sentence = "if it was the leader and others are left, the first is the leader, the end the time plus the wait";
        for (boolean isFailing : new boolean[] {false, true}) {
            for (int wait = 2; wait <= 20; wait += 6) {
                GroupCommits log = withWait(wait);
                int group = log.total(4);
                int time = log.count(0);
                log.submit(9, 1, false);
                log.submit(4, 1, false);
                log.submit(7, 1, false);
                log.tick(wait - 1);
                takeOut(log, 4, isFailing);
                due("not the leader: the leader stays", log.group(group, 3), 9);
                due("not the leader: the end stays", log.group(group, 4), time + wait);
                takeOut(log, 9, isFailing);
                due("the first that is left", log.group(group, 3), 7);
                due("a new end", log.group(group, 4), time + wait - 1 + wait);
                log.tick(wait - 1);
                due("one tick before it", log.group(group, 0), GATHERING);
                log.tick(1);
                due("at it", log.group(group, 5), ENDED);
            }
        }
        GroupCommits order = new GroupCommits();
        order.submit(9, 1, false);
        order.submit(4, 1, false);
        order.withdraw(9);
        order.submit(9, 1, false);
        due("who comes back is the last", order.group(0, 3), 4);
        due("members", order.member(0, 1), 2);
        GroupCommits changed = withWait(6);
        int group = changed.total(4);
        changed.submit(0, 1, false);
        changed.submit(1, 1, false);
        changed.set(MOST, 1);
        changed.withdraw(0);
        due("the wait as it is, above MOST", changed.group(group, 4), changed.count(0) + 6);
    }

    private static void nextTickAtTheEarliest() {
        sentence = "the group does not close by this before the next tick";
        for (boolean isFailing : new boolean[] {false, true}) {
            GroupCommits log = withWait(1);
            int group = log.total(4);
            log.submit(0, 8, false);
            log.submit(1, 4, false);
            log.set(FULL_SIZE, 1);
            log.set(MOST, 0);
            takeOut(log, 0, isFailing);
            due("gathering, though full", log.group(group, 0), GATHERING);
            due("no reason", log.group(group, 5), 0);
            due("none is written", log.count(3), NONE);
            due("the end", log.group(group, 4), log.count(0) + 1);
            due("the wait", log.count(1), 1);
            due("answered in", log.answeredIn(1), 1 + 4 + 1);
            log.tick(1);
            due("closed in the next tick", log.group(group, 5), ENDED);
            due("one member is left", log.count(1), 0);
        }
    }

    private static void lastMemberTakenOut() {
        sentence = "if no member is left, the group is gone";
        for (boolean isFailing : new boolean[] {false, true}) {
            GroupCommits log = new GroupCommits();
            log.submit(3, 5, false);
            due("the last one", takeOut(log, 3, isFailing), 0);
            int[] gone = {GONE, 0, 0, NONE, NONE, 0, NONE};
            for (int what = 0; what < gone.length; what++) {
                due("group, " + what, log.group(0, what), gone[what]);
            }
            due("no member", log.member(0, 0), NONE);
            due("it was of it", log.commit(0, 6), 0);
            due("none gathers", log.count(2), NONE);
            due("none is queued", log.count(4), 0);
            due("none is written", log.count(3), NONE);
            log.tick(1);
            due("the next begins anew", log.submit(3, 2, false), 1);
            due("its number", log.count(2), 1);
            due("its end", log.group(1, 4), 3);
            due("the gone one stays", log.group(0, 0), GONE);
            due("nothing of it comes to the disk", log.tick(9), 1);
            due("records", log.total(6), 2);
            due("written groups", log.total(5), 1);
        }
    }
}
