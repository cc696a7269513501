/**
 * The boundary cases that ../shared/DOC.md names for the queries: promises 15 to 21. A test bears the sentence that it is
 * about; no object has over 512 calls.
 */
public final class QueryBoundariesTest {
    private static final int NO_SUCH = -1, BAD_VALUE = -2, NONE = -5;
    private static final int MOST = 0, FULL_SIZE = 1, FIXED = 2, LEARN = 3;
    private static final int GATHERING = 1, QUEUED = 2, BEING_WRITTEN = 3, WRITTEN = 4, GONE = 5;
    private static final int ANSWERED = 4, LOST = 5, WITHDRAWN = 6;
    private static final int URGENT = 1, FULL = 2, ENDED = 3;

    private static int wrong = 0;
    private static String sentence = "";

    private static void due(String what, double got, double want) {
        if (Double.compare(got, want) != 0) {
            wrong++;
            System.out.println(sentence + " | " + what + ": answered " + got + ", due is " + want);
        }
    }

    private static int[] outside(int least, int greatest) {
        return new int[] {least - 1, least - 2, least - 1000, Integer.MIN_VALUE, Integer.MIN_VALUE + least,
            greatest + 1, greatest + 2, greatest + 1000, Integer.MAX_VALUE, Integer.MAX_VALUE - 1,
            least + 256, greatest + 256, least + 65536, greatest + 65536, least - 256, greatest - 65536};
    }

    private static void dueCommit(GroupCommits log, int commit, int[] want) {
        for (int what = 0; what < want.length; what++) {
            due("commit " + commit + ", " + what, log.commit(commit, what), want[what]);
        }
    }

    private static void dueGroup(GroupCommits log, int group, int[] want) {
        for (int what = 0; what < want.length; what++) {
            due("group " + group + ", " + what, log.group(group, what), want[what]);
        }
    }

    private static GroupCommits mostCommits() {
        GroupCommits log = new GroupCommits();
        for (int i = 0; i < 149; i++) {
            log.submit(i % 12, 1, false);
            log.withdraw(i % 12);
        }
        log.submit(5, 8, true);
        return log;
    }

    public static void main(String[] args) {
        commitNumbers();
        commitThings();
        commitStates();
        commitTimes();
        groupNumbers();
        groupThings();
        groupStates();
        groupReasons();
        groupTicks();
        groupThatIsGone();
        memberNumbers();
        memberPlaces();
        openClients();
        queuedPlaces();
        mostQueued();
        countThings();
        countNone();
        countClients();
        totalThings();
        totalsFromTheBeginning();
        System.out.println(wrong == 0 ? "all answers are as due" : wrong + " answers are not as due");
        if (wrong != 0) {
            System.exit(1);
        }
    }

    private static void commitNumbers() {
        sentence = "commit: NO_SUCH if there is no such commit, before BAD_VALUE";
        GroupCommits log = new GroupCommits();
        for (int commit : outside(0, 0)) {
            due("no commit, " + commit, log.commit(commit, 0), NO_SUCH);
        }
        due("no first one", log.commit(0, 0), NO_SUCH);
        due("no first one, and no such thing", log.commit(0, 7), NO_SUCH);
        log.submit(3, 1, false);
        log.submit(4, 1, false);
        due("the last one", log.commit(1, 0), 4);
        for (int commit : outside(0, 1)) {
            due("two commits, " + commit, log.commit(commit, 0), NO_SUCH);
            due("two commits, no such thing, " + commit, log.commit(commit, -1), NO_SUCH);
        }
        log.undo();
        due("undone", log.commit(1, 0), NO_SUCH);
        due("the one before it", log.commit(0, 0), 3);
        GroupCommits full = mostCommits();
        due("the 150th", full.commit(149, 0), 5);
        for (int commit : outside(0, 149)) {
            due("150 commits, " + commit, full.commit(commit, 0), NO_SUCH);
        }
    }

    private static void commitThings() {
        sentence = "commit: BAD_VALUE if what is out of range (0 to 6)";
        GroupCommits log = new GroupCommits();
        log.submit(0, 8, true);
        for (int what : outside(0, 6)) {
            due("what " + what, log.commit(0, what), BAD_VALUE);
        }
        dueCommit(log, 0, new int[] {0, 8, 1, BEING_WRITTEN, 0, NONE, 0});
        GroupCommits last = mostCommits();
        dueCommit(last, 149, new int[] {5, 8, 1, BEING_WRITTEN, 0, NONE, 149});
        dueCommit(last, 148, new int[] {4, 1, 0, WITHDRAWN, 0, NONE, 148});
        for (int what : outside(0, 6)) {
            due("what " + what, last.commit(149, what), BAD_VALUE);
        }
    }

    private static void commitStates() {
        sentence = "a commit is gathering (1), queued (2), being written (3), answered (4), lost (5) or withdrawn (6)";
        GroupCommits log = new GroupCommits();
        log.set(LEARN, 0);
        log.submit(0, 1, false);
        due("gathering", log.commit(0, 3), GATHERING);
        log.submit(1, 1, true);
        due("the others of its group are written with it", log.commit(0, 3), BEING_WRITTEN);
        due("being written", log.commit(1, 3), BEING_WRITTEN);
        log.submit(2, 1, false);
        log.submit(3, 1, true);
        due("the others of its group are queued with it", log.commit(2, 3), QUEUED);
        due("queued", log.commit(3, 3), QUEUED);
        log.submit(4, 1, false);
        log.submit(5, 1, false);
        log.withdraw(5);
        due("withdrawn", log.commit(5, 3), WITHDRAWN);
        log.fail(4);
        due("lost while gathering", log.commit(4, 3), LOST);
        log.fail(3);
        due("lost while queued", log.commit(3, 3), LOST);
        log.fail(1);
        due("lost while being written", log.commit(1, 3), LOST);
        log.tick(4);
        due("answered", log.commit(0, 3), ANSWERED);
        due("from queued to being written", log.commit(2, 3), BEING_WRITTEN);
        due("lost ones stay", log.commit(3, 3), LOST);
        due("lost ones stay", log.commit(1, 3), LOST);
        log.crash();
        int[] states = {ANSWERED, LOST, LOST, LOST, LOST, WITHDRAWN};
        for (int commit = 0; commit < states.length; commit++) {
            due("after a crash, " + commit, log.commit(commit, 3), states[commit]);
        }
    }

    private static void commitTimes() {
        sentence = "the time at which it was submitted, and was answered (NONE if it was not)";
        GroupCommits log = new GroupCommits();
        log.set(FIXED, 1);
        log.submit(0, 1, true);
        due("at the time 0", log.commit(0, 4), 0);
        due("not yet", log.commit(0, 5), NONE);
        log.tick(1);
        due("at the time 1", log.commit(0, 5), 1);
        log.tick(98);
        log.submit(1, 1, false);
        due("at the time 99", log.commit(1, 4), 99);
        log.submit(2, 1, false);
        log.withdraw(2);
        log.tick(1);
        log.submit(3, 1, true);
        log.fail(3);
        log.tick(99);
        due("in the midst of the ticks", log.commit(1, 5), 101);
        due("withdrawn", log.commit(2, 5), NONE);
        due("lost", log.commit(3, 5), NONE);
        due("submitted all the same", log.commit(3, 4), 100);
        log.submit(4, 1, true);
        log.crash();
        due("lost by a crash", log.commit(4, 5), NONE);
        log.tick(99);
        due("for ever", log.commit(4, 5), NONE);
        due("an answer stays", log.commit(0, 5), 1);
    }

    private static void groupNumbers() {
        sentence = "group: NO_SUCH if there is no such group, before BAD_VALUE";
        GroupCommits log = new GroupCommits();
        for (int group : outside(0, 0)) {
            due("no group, " + group, log.group(group, 0), NO_SUCH);
        }
        due("no first one", log.group(0, 0), NO_SUCH);
        due("no first one, and no such thing", log.group(0, -1), NO_SUCH);
        log.submit(0, 1, false);
        log.submit(1, 1, true);
        log.submit(2, 1, true);
        due("the last one", log.group(1, 1), 1);
        for (int group : outside(0, 1)) {
            due("two groups of three commits, " + group, log.group(group, 0), NO_SUCH);
            due("two groups, no such thing, " + group, log.group(group, 7), NO_SUCH);
        }
        log.undo();
        due("undone", log.group(1, 0), NO_SUCH);
        due("the one before it", log.group(0, 1), 2);
        GroupCommits full = mostCommits();
        due("the 150th", full.group(149, 0), BEING_WRITTEN);
        for (int group : outside(0, 149)) {
            due("150 groups, " + group, full.group(group, 0), NO_SUCH);
        }
    }

    private static void groupThings() {
        sentence = "group: BAD_VALUE if what is out of range (0 to 6)";
        GroupCommits log = new GroupCommits();
        log.submit(0, 8, false);
        for (int what : outside(0, 6)) {
            due("what " + what, log.group(0, what), BAD_VALUE);
        }
        dueGroup(log, 0, new int[] {GATHERING, 1, 8, 0, 2, 0, NONE});
        GroupCommits last = mostCommits();
        dueGroup(last, 149, new int[] {BEING_WRITTEN, 1, 8, NONE, NONE, URGENT, 6});
        for (int what : outside(0, 6)) {
            due("what " + what, last.group(149, what), BAD_VALUE);
        }
    }

    private static void groupStates() {
        sentence = "a group is gathering (1), queued (2), being written (3), written (4), or gone (5)";
        GroupCommits log = new GroupCommits();
        log.set(LEARN, 0);
        log.submit(0, 1, true);
        log.submit(1, 2, true);
        log.submit(2, 3, false);
        log.withdraw(2);
        log.submit(11, 4, false);
        dueGroup(log, 0, new int[] {BEING_WRITTEN, 1, 1, NONE, NONE, URGENT, 4});
        dueGroup(log, 1, new int[] {QUEUED, 1, 2, NONE, NONE, URGENT, NONE});
        dueGroup(log, 2, new int[] {GONE, 0, 0, NONE, NONE, 0, NONE});
        dueGroup(log, 3, new int[] {GATHERING, 1, 4, 11, 2, 0, NONE});
        log.tick(4);
        dueGroup(log, 0, new int[] {WRITTEN, 1, 1, NONE, NONE, URGENT, NONE});
        dueGroup(log, 1, new int[] {BEING_WRITTEN, 1, 2, NONE, NONE, URGENT, 4});
        dueGroup(log, 3, new int[] {QUEUED, 1, 4, NONE, NONE, ENDED, NONE});
        log.tick(4);
        dueGroup(log, 3, new int[] {BEING_WRITTEN, 1, 4, NONE, NONE, ENDED, 5});
        log.tick(5);
        dueGroup(log, 3, new int[] {WRITTEN, 1, 4, NONE, NONE, ENDED, NONE});
        log.crash();
        dueGroup(log, 3, new int[] {WRITTEN, 1, 4, NONE, NONE, ENDED, NONE});
    }

    private static void groupReasons() {
        sentence = "the reason why it closed (0 if it has not closed)";
        GroupCommits log = new GroupCommits();
        log.set(LEARN, 0);
        log.submit(0, 8, false);
        due("not yet", log.group(0, 5), 0);
        log.submit(1, 8, false);
        log.submit(2, 1, true);
        log.submit(3, 1, false);
        log.tick(2);
        log.submit(4, 1, false);
        int[] reasons = {FULL, URGENT, ENDED, 0};
        for (int group = 0; group < reasons.length; group++) {
            due("group " + group, log.group(group, 5), reasons[group]);
        }
        log.tick(99);
        reasons[3] = ENDED;
        for (int group = 0; group < reasons.length; group++) {
            due("written " + group, log.group(group, 5), reasons[group]);
            due("state " + group, log.group(group, 0), WRITTEN);
        }
    }

    private static void groupTicks() {
        sentence = "the ticks that it takes yet (NONE if it is not being written)";
        GroupCommits log = new GroupCommits();
        log.submit(0, 8, true);
        log.submit(1, 1, true);
        for (int left = 6; left >= 1; left--) {
            due("left", log.group(0, 6), left);
            due("queued", log.group(1, 6), NONE);
            log.tick(1);
        }
        due("written", log.group(0, 6), NONE);
        due("the next", log.group(1, 6), 4);
        log.fail(1);
        due("also if all its members are lost", log.group(1, 6), 4);
        log.crash();
        due("gone", log.group(1, 6), NONE);
    }

    private static void groupThatIsGone() {
        sentence = "a group that is gone has the members that it had then";
        GroupCommits log = new GroupCommits();
        log.set(LEARN, 0);
        log.submit(0, 1, true);
        log.submit(1, 2, false);
        log.submit(2, 3, true);
        log.fail(1);
        log.submit(3, 4, false);
        log.submit(4, 5, false);
        log.submit(5, 6, false);
        log.withdraw(3);
        log.crash();
        dueGroup(log, 0, new int[] {GONE, 1, 1, NONE, NONE, URGENT, NONE});
        dueGroup(log, 1, new int[] {GONE, 2, 5, NONE, NONE, URGENT, NONE});
        dueGroup(log, 2, new int[] {GONE, 2, 11, NONE, NONE, 0, NONE});
        int[] members = {1, 2, NONE};
        int[] others = {4, 5, NONE};
        for (int place = 0; place < 3; place++) {
            due("the queued one", log.member(1, place), members[place]);
            due("the gathering one", log.member(2, place), others[place]);
        }
    }

    private static void memberNumbers() {
        sentence = "member: NO_SUCH if there is no such group, before BAD_VALUE if place is below 0";
        GroupCommits log = new GroupCommits();
        int[] below = {-1, -2, -5, -150, -65536, Integer.MIN_VALUE, Integer.MIN_VALUE + 1};
        for (int place : below) {
            due("no group", log.member(0, place), NO_SUCH);
        }
        log.submit(0, 1, true);
        log.submit(1, 1, true);
        for (int group : outside(0, 1)) {
            due("two groups, " + group, log.member(group, 0), NO_SUCH);
            due("two groups, below 0, " + group, log.member(group, -1), NO_SUCH);
        }
        for (int place : below) {
            due("place " + place, log.member(0, place), BAD_VALUE);
            due("place " + place, log.member(1, place), BAD_VALUE);
        }
    }

    private static void memberPlaces() {
        sentence = "member: NONE if there are not so many members";
        GroupCommits log = new GroupCommits();
        for (int client = 0; client < 12; client++) {
            due("not yet", log.member(0, client), client == 0 ? NO_SUCH : NONE);
            log.submit(client, 1, false);
            due("the last one", log.member(0, client), client);
        }
        int[] above = {12, 13, 149, 150, 151, 256, 65536, Integer.MAX_VALUE - 1, Integer.MAX_VALUE};
        for (int place : above) {
            due("place " + place, log.member(0, place), NONE);
        }
        log.withdraw(0);
        log.fail(11);
        due("first", log.member(0, 0), 1);
        due("last", log.member(0, 9), 10);
        due("no more", log.member(0, 10), NONE);
        log.submit(0, 8, true);
        due("who comes back is the last", log.member(0, 10), 12);
        due("no more", log.member(0, 11), NONE);
        log.submit(11, 1, true);
        due("another group's first", log.member(1, 0), 13);
        due("no second", log.member(1, 1), NONE);
        log.tick(99);
        due("written, last", log.member(0, 10), 12);
        GroupCommits full = mostCommits();
        due("no member is left", full.member(0, 0), NONE);
        due("the last commit", full.member(149, 0), 149);
        due("and no other", full.member(149, 1), NONE);
    }

    private static void openClients() {
        sentence = "open: NO_SUCH if there is no such client (0 to 11); NONE if the client is not busy";
        GroupCommits log = new GroupCommits();
        log.set(LEARN, 0);
        for (int client : outside(0, 11)) {
            due("client " + client, log.open(client), NO_SUCH);
        }
        for (int client = 0; client < 12; client++) {
            due("not busy, " + client, log.open(client), NONE);
        }
        for (int client = 11; client >= 0; client--) {
            log.submit(client, 1, client % 5 == 0);
            due("busy, " + client, log.open(client), 11 - client);
        }
        for (int client : outside(0, 11)) {
            due("client " + client, log.open(client), NO_SUCH);
        }
        for (int client = 0; client < 12; client++) {
            due("busy yet, " + client, log.open(client), 11 - client);
        }
        log.fail(11);
        due("lost, though being written", log.open(11), NONE);
        log.fail(3);
        due("lost, though queued", log.open(3), NONE);
        log.tick(99);
        for (int client = 0; client < 12; client++) {
            due("answered or lost, " + client, log.open(client), NONE);
        }
        GroupCommits full = mostCommits();
        due("the 150th", full.open(5), 149);
        due("not busy", full.open(4), NONE);
    }

    private static void queuedPlaces() {
        sentence = "queued: BAD_VALUE if place is below 0; NONE if there are not so many";
        GroupCommits log = new GroupCommits();
        log.set(LEARN, 0);
        int[] below = {-1, -2, -5, -150, -65536, Integer.MIN_VALUE, Integer.MIN_VALUE + 1};
        int[] above = {3, 4, 149, 150, 151, 256, 65536, Integer.MAX_VALUE - 1, Integer.MAX_VALUE};
        for (int place : below) {
            due("no queue, place " + place, log.queued(place), BAD_VALUE);
        }
        due("no queue", log.queued(0), NONE);
        log.submit(0, 1, false);
        due("one gathers", log.queued(0), NONE);
        log.submit(1, 1, true);
        due("one is being written", log.queued(0), NONE);
        log.submit(2, 1, true);
        log.submit(3, 1, true);
        log.submit(4, 1, true);
        log.submit(5, 1, false);
        int[] queue = {1, 2, 3, NONE};
        for (int place = 0; place < queue.length; place++) {
            due("place " + place, log.queued(place), queue[place]);
        }
        for (int place : below) {
            due("place " + place, log.queued(place), BAD_VALUE);
        }
        for (int place : above) {
            due("place " + place, log.queued(place), NONE);
        }
        log.fail(2);
        due("a group with lost members stays", log.queued(0), 1);
        log.tick(8);
        due("after two were written", log.queued(0), 3);
        due("what closed by its end stands behind", log.queued(1), 4);
        for (int place : below) {
            due("later, place " + place, log.queued(place), BAD_VALUE);
        }
        for (int place : above) {
            due("later, place " + place, log.queued(place), NONE);
        }
        log.crash();
        due("no queue after a crash", log.queued(0), NONE);
        log.submit(6, 1, true);
        log.submit(7, 1, true);
        due("a new one", log.queued(0), 6);
        due("without the old ones", log.queued(1), NONE);
    }

    private static void mostQueued() {
        sentence = "as many queued groups as there can be";
        GroupCommits log = new GroupCommits();
        for (int i = 0; i < 150; i++) {
            log.submit(i % 12, 1, true);
            log.fail(i % 12);
        }
        due("queued", log.count(4), 149);
        for (int place = 0; place < 149; place++) {
            due("place " + place, log.queued(place), place + 1);
        }
        due("no 150th", log.queued(149), NONE);
        log.tick(4);
        due("one less", log.count(4), 148);
        due("the first", log.queued(0), 2);
        due("the last", log.queued(147), 149);
        due("no more", log.queued(148), NONE);
        due("none is lost by a crash", log.crash(), 0);
        due("all are gone", log.count(4), 0);
        due("the first of them", log.group(1, 0), GONE);
        due("the last of them", log.group(149, 0), GONE);
        due("but what was written", log.group(0, 0), WRITTEN);
    }

    private static void countThings() {
        sentence = "count: BAD_VALUE if what is out of range (0 to 11)";
        GroupCommits log = new GroupCommits();
        for (int what : outside(0, 11)) {
            due("what " + what, log.count(what), BAD_VALUE);
        }
        log.set(MOST, 20);
        log.set(FULL_SIZE, 40);
        log.set(FIXED, 20);
        log.submit(0, 1, true);
        log.submit(1, 1, true);
        log.set(LEARN, 0);
        log.tick(7);
        log.submit(2, 1, true);
        log.append('a');
        log.append('b');
        int[] counts = {7, 0, NONE, 0, 2, 3, 20, 40, 20, 0, 4, 2};
        for (int what = 0; what < counts.length; what++) {
            due("what " + what, log.count(what), counts[what]);
        }
        for (int what : outside(0, 11)) {
            due("what " + what, log.count(what), BAD_VALUE);
        }
    }

    private static void countNone() {
        sentence = "the group that is gathering, the one that is being written (NONE each without one)";
        GroupCommits log = new GroupCommits();
        log.set(LEARN, 0);
        due("none gathers", log.count(2), NONE);
        due("none is being written", log.count(3), NONE);
        log.submit(0, 1, false);
        due("group 0 gathers", log.count(2), 0);
        due("none is being written", log.count(3), NONE);
        log.submit(1, 1, true);
        due("none gathers", log.count(2), NONE);
        due("group 0 is being written", log.count(3), 0);
        log.submit(2, 1, false);
        due("group 1 gathers", log.count(2), 1);
        log.withdraw(2);
        due("none gathers", log.count(2), NONE);
        log.tick(4);
        due("none is being written", log.count(3), NONE);
        log.submit(3, 1, true);
        log.submit(4, 1, false);
        log.crash();
        due("none gathers after a crash", log.count(2), NONE);
        due("none is being written after a crash", log.count(3), NONE);
        due("none is queued", log.count(4), 0);
    }

    private static void countClients() {
        sentence = "the number of busy clients, 0 to 12";
        GroupCommits log = new GroupCommits();
        for (int client = 0; client < 12; client++) {
            due("busy", log.count(5), client);
            log.submit(client, 8, client % 3 == 0);
        }
        due("twelve", log.count(5), 12);
        for (int client = 0; client < 12; client++) {
            log.submit(client, 1, true);
        }
        due("not more", log.count(5), 12);
        log.fail(0);
        log.fail(0);
        due("eleven", log.count(5), 11);
        due("the others are answered", log.tick(99), 11);
        due("none", log.count(5), 0);
    }

    private static void totalThings() {
        sentence = "total: BAD_VALUE if what is out of range (0 to 7)";
        GroupCommits log = new GroupCommits();
        for (int what : outside(0, 7)) {
            due("what " + what, log.total(what), BAD_VALUE);
        }
        for (int what = 0; what < 8; what++) {
            due("what " + what, log.total(what), 0);
        }
        log.submit(0, 5, false);
        log.submit(1, 6, false);
        log.tick(1);
        log.submit(2, 1, true);
        log.submit(3, 1, false);
        log.submit(4, 1, false);
        log.withdraw(3);
        log.withdraw(4);
        log.submit(5, 1, true);
        log.fail(1);
        log.tick(50);
        log.submit(6, 8, true);
        log.submit(7, 1, false);
        log.crash();
        int[] totals = {8, 3, 3, 2, 5, 2, 13, 8 + 7 + 11};
        for (int what = 0; what < 8; what++) {
            due("what " + what, log.total(what), totals[what]);
        }
        for (int what : outside(0, 7)) {
            due("what " + what, log.total(what), BAD_VALUE);
        }
    }

    private static void totalsFromTheBeginning() {
        sentence = "total returns a number that is counted from the beginning";
        GroupCommits log = new GroupCommits();
        for (int i = 0; i < 120; i++) {
            log.submit(i % 12, 8, true);
            if (i % 12 == 11) {
                log.tick(99);
            }
        }
        due("submitted", log.total(0), 120);
        due("answered", log.total(1), 120);
        due("groups that began", log.total(4), 120);
        due("groups that were written", log.total(5), 120);
        due("records on the disk", log.total(6), 960);
        due("sum of the ticks", log.total(7), 10 * 6 * 78);
        GroupCommits lost = new GroupCommits();
        for (int i = 0; i < 150; i++) {
            lost.submit(0, 8, i % 2 == 0);
            lost.fail(0);
        }
        due("submitted", lost.total(0), 150);
        due("lost", lost.total(2), 150);
        due("withdrawn", lost.total(3), 0);
        due("answered", lost.total(1), 0);
        due("groups", lost.total(4), 150);
        GroupCommits late = new GroupCommits();
        late.set(FIXED, 20);
        for (int i = 0; i < 139; i++) {
            late.submit(0, 8, true);
            late.fail(0);
        }
        for (int client = 1; client < 12; client++) {
            late.submit(client, 8, true);
        }
        for (int round = 0; round < 34; round++) {
            late.tick(99);
        }
        due("answered", late.total(1), 11);
        due("records on the disk", late.total(6), 1200);
        due("written groups", late.total(5), 150);
        due("the sum of long waits", late.total(7), 22 * (139 * 11 + 66));
        due("the last answer", late.commit(149, 5), 3300);
    }
}
