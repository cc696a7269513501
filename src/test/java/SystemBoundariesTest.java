/**
 * The boundary cases that ../shared/DOC.md names for the system: promises 5 to 7, with the steps of a tick, the writing
 * of groups and the settings. A test bears the sentence that it is about; no object has over 512 calls.
 */
public final class SystemBoundariesTest {
    private static final int NO_SUCH = -1, BAD_VALUE = -2, NONE = -5;
    private static final int MOST = 0, FULL_SIZE = 1, FIXED = 2, LEARN = 3;
    private static final int GATHERING = 1, QUEUED = 2, BEING_WRITTEN = 3, WRITTEN = 4, GONE = 5;
    private static final int ANSWERED = 4, LOST = 5, WITHDRAWN = 6;
    private static final int URGENT = 1, ENDED = 3;
    private static final int[] LEAST = {0, 1, 1, 0};
    private static final int[] GREATEST = {20, 40, 20, 1};
    private static final int[] FIRST = {6, 16, 4, 1};

    private static int wrong = 0;
    private static String sentence = "";

    private static void due(String what, double got, double want) {
        if (Double.compare(got, want) != 0) {
            wrong++;
            System.out.println(sentence + " | " + what + ": answered " + got + ", due is " + want);
        }
    }

    /** Just outside of a range, far outside, the ends of int, and what falls into the range if high bits are cut off. */
    private static int[] outside(int least, int greatest) {
        return new int[] {least - 1, least - 2, least - 1000, Integer.MIN_VALUE, Integer.MIN_VALUE + least,
            greatest + 1, greatest + 2, greatest + 1000, Integer.MAX_VALUE, Integer.MAX_VALUE - 1,
            least + 256, greatest + 256, least + 65536, greatest + 65536, least - 256, greatest - 65536};
    }

    public static void main(String[] args) {
        crashOfNothing();
        crashOfAll();
        crashCountsOnce();
        afterCrash();
        tickRange();
        mostAnswers();
        ticksOneAfterTheOther();
        writtenFirst();
        closesAndBegins();
        queueOrder();
        quarterOfRecords();
        settingAsItIsThen();
        lostMembers();
        settingNumbers();
        settingValues();
        settingChangesNothingElse();
        System.out.println(wrong == 0 ? "all answers are as due" : wrong + " answers are not as due");
        if (wrong != 0) {
            System.exit(1);
        }
    }

    private static void crashOfNothing() {
        sentence = "crash returns the number of commits that are lost by this: 0 if there is nothing to lose";
        GroupCommits log = new GroupCommits();
        due("new", log.crash(), 0);
        due("an action", log.count(10), 1);
        due("again", log.crash(), 0);
        due("an action", log.count(10), 2);
        log.submit(0, 1, true);
        log.tick(4);
        log.submit(1, 1, false);
        log.withdraw(1);
        due("only answered and withdrawn ones", log.crash(), 0);
        due("answered yet", log.commit(0, 3), ANSWERED);
        due("at its time", log.commit(0, 5), 4);
        due("withdrawn yet", log.commit(1, 3), WITHDRAWN);
        due("written yet", log.group(0, 0), WRITTEN);
        due("lost", log.total(2), 0);
        due("the disk keeps its records", log.total(6), 1);
    }

    private static GroupCommits twelveBusy() {
        GroupCommits log = new GroupCommits();
        log.set(LEARN, 0);
        int[] urgent = {2, 3, 6, 9};
        for (int client = 0; client < 12; client++) {
            boolean isUrgent = false;
            for (int one : urgent) {
                isUrgent |= one == client;
            }
            log.submit(client, 1, isUrgent);
        }
        return log;
    }

    private static void crashOfAll() {
        sentence = "the group being written, all queued ones and the gathering one are gone, and their members lost";
        GroupCommits log = twelveBusy();
        due("queued", log.count(4), 3);
        due("gathering", log.count(2), 4);
        due("being written", log.count(3), 0);
        due("twelve are lost", log.crash(), 12);
        int[] members = {3, 1, 3, 3, 2};
        int[] reasons = {URGENT, URGENT, URGENT, URGENT, 0};
        for (int group = 0; group < 5; group++) {
            int[] gone = {GONE, members[group], members[group], NONE, NONE, reasons[group], NONE};
            for (int what = 0; what < gone.length; what++) {
                due("group " + group + ", " + what, log.group(group, what), gone[what]);
            }
            due("last member of " + group, log.member(group, members[group] - 1) >= 0 ? 1 : 0, 1);
            due("no more of " + group, log.member(group, members[group]), NONE);
        }
        for (int client = 0; client < 12; client++) {
            due("lost " + client, log.commit(client, 3), LOST);
            due("not busy " + client, log.open(client), NONE);
            due("not answered " + client, log.commit(client, 5), NONE);
        }
        int[] counts = {0, 2, NONE, NONE, 0, 0, 6, 16, 4, 0, 4, 0};
        for (int what = 0; what < counts.length; what++) {
            due("count " + what, log.count(what), counts[what]);
        }
        due("idle", log.idleIn(), 0);
        due("no queue", log.queued(0), NONE);
        due("nothing comes to the disk", log.tick(99) + log.total(6) + log.total(5) + log.total(1), 0);
        due("lost", log.total(2), 12);
    }

    private static void crashCountsOnce() {
        sentence = "crash returns the number of commits that are lost by this, not of those that were lost before";
        GroupCommits log = twelveBusy();
        log.fail(0);
        log.fail(3);
        log.fail(11);
        log.withdraw(10);
        due("eight", log.crash(), 8);
        due("lost altogether", log.total(2), 11);
        due("withdrawn", log.total(3), 1);
        due("withdrawn yet", log.commit(10, 3), WITHDRAWN);
        due("members that were lost before", log.group(0, 1), 3);
        due("and taken out before", log.group(4, 1), 0);
        due("none is left", log.crash(), 0);
        due("lost altogether", log.total(2), 11);
    }

    private static void afterCrash() {
        sentence = "after a crash the log goes on, with its time, its wait, its settings and its numbers";
        GroupCommits log = new GroupCommits();
        log.set(MOST, 9);
        log.submit(0, 1, false);
        log.submit(1, 1, true);
        log.tick(3);
        log.submit(2, 8, true);
        log.submit(3, 1, false);
        log.crash();
        due("the time", log.count(0), 3);
        due("the wait, learned before", log.count(1), 2);
        due("the setting", log.count(6), 9);
        due("the next commit", log.submit(4, 8, true), 4);
        due("in the next group", log.commit(4, 6), 3);
        due("is being written at once", log.count(3), 3);
        due("with all its ticks", log.group(3, 6), 6);
        due("five of them", log.tick(5), 0);
        due("answered", log.tick(1), 1);
        due("only its records", log.total(6), 8);
        log.submit(5, 1, false);
        due("an end by the wait", log.group(4, 4), 9 + 1);
    }

    private static void tickRange() {
        sentence = "tick: BAD_VALUE if ticks is out of range (1 to 99); the time grows by 1 in each";
        GroupCommits log = new GroupCommits();
        log.submit(0, 1, true);
        for (int ticks : outside(1, 99)) {
            due("ticks " + ticks, log.tick(ticks), BAD_VALUE);
            due("the time", log.count(0), 0);
            due("what is being written", log.group(0, 6), 4);
        }
        due("ticks 0", log.tick(0), BAD_VALUE);
        due("one action, the commit", log.count(10), 1);
        int time = 0;
        for (int ticks = 1; ticks <= 99; ticks++) {
            due("ticks " + ticks, log.tick(ticks), ticks == 3 ? 1 : 0);
            time += ticks;
            due("the time after " + ticks, log.count(0), time);
        }
    }

    private static void mostAnswers() {
        sentence = "tick returns the number of commits that are answered in these ticks";
        GroupCommits log = new GroupCommits();
        for (int client = 0; client < 12; client++) {
            log.submit(client, 1, client == 11);
        }
        due("one tick too few", log.tick(6), 0);
        due("twelve at once", log.tick(1), 12);
        due("none afterwards", log.tick(99), 0);
        due("answered", log.total(1), 12);
        GroupCommits apart = new GroupCommits();
        for (int client = 0; client < 12; client++) {
            apart.submit(client, 4, true);
        }
        due("all but the last in twelve groups", apart.tick(59), 11);
        due("the last", apart.tick(1), 1);
        for (int client = 0; client < 12; client++) {
            due("at", apart.commit(client, 5), 5 * (client + 1));
        }
        due("the sum of the ticks", apart.total(7), 5 * 78);
        GroupCommits once = new GroupCommits();
        for (int client = 0; client < 12; client++) {
            once.submit(client, 4, true);
        }
        due("in one call", once.tick(99), 12);
        due("the time of the last", once.commit(11, 5), 60);
    }

    private static void play(GroupCommits log, int step) {
        log.submit(step % 12, 1 + step % 8, step % 7 == 0);
        log.submit((5 * step + 3) % 12, 8 - step % 8, false);
        if (step % 5 == 0) {
            log.fail((step + 2) % 12);
        }
        if (step % 4 == 0) {
            log.withdraw((5 * step + 3) % 12);
        }
    }

    private static void ticksOneAfterTheOther() {
        sentence = "tick makes ticks, one after the other";
        GroupCommits together = new GroupCommits();
        GroupCommits apart = new GroupCommits();
        for (int step = 0; step < 20; step++) {
            play(together, step);
            play(apart, step);
            int ticks = 1 + step * 3 % 11;
            int answered = 0;
            for (int tick = 0; tick < ticks; tick++) {
                answered += apart.tick(1);
            }
            due("answered in step " + step, together.tick(ticks), answered);
            for (int what = 0; what < 6; what++) {
                due("count " + what + " in step " + step, together.count(what), apart.count(what));
            }
            for (int what = 0; what < 8; what++) {
                due("total " + what + " in step " + step, together.total(what), apart.total(what));
            }
        }
    }

    private static void writtenFirst() {
        sentence = "1. a group takes one tick less; if it takes none any more, it is written, its members are answered";
        GroupCommits log = new GroupCommits();
        log.set(FIXED, 1);
        log.tick(7);
        log.submit(0, 3, true);
        due("one tick is left", log.group(0, 6), 1);
        due("being written yet", log.commit(0, 3), BEING_WRITTEN);
        due("nothing is on the disk before", log.total(6), 0);
        due("the least that a commit can take", log.tick(1), 1);
        due("answered", log.commit(0, 3), ANSWERED);
        due("at", log.commit(0, 5), 8);
        due("on the disk", log.total(6), 3);
        due("written", log.group(0, 0), WRITTEN);
        due("it takes no ticks any more", log.group(0, 6), NONE);
        due("none is being written", log.count(3), NONE);
        due("the ticks", log.total(7), 1);
        GroupCommits greatest = new GroupCommits();
        greatest.set(FIXED, 20);
        greatest.set(FULL_SIZE, 40);
        for (int client = 0; client < 5; client++) {
            greatest.submit(client, 8, false);
        }
        due("40 records take 30 ticks", greatest.group(0, 6), 30);
        for (int left = 29; left >= 1; left--) {
            due("not yet", greatest.tick(1), 0);
            due("ticks that are left", greatest.group(0, 6), left);
        }
        due("five are answered", greatest.tick(1), 5);
    }

    private static void closesAndBegins() {
        sentence = "the steps of a tick: 1 it is written, 2 the gathering one closes, 3 the first queued one begins";
        GroupCommits log = new GroupCommits();
        log.submit(0, 1, true);
        log.tick(3);
        log.submit(1, 8, false);
        due("its end", log.group(1, 4), 4);
        due("all in one tick", log.tick(1), 1);
        due("written", log.group(0, 0), WRITTEN);
        due("closed", log.group(1, 5), ENDED);
        due("being written, without a tick for the queue", log.count(3), 1);
        due("no tick is taken yet", log.group(1, 6), 6);
        due("no queue", log.count(4), 0);
        GroupCommits later = new GroupCommits();
        later.submit(0, 1, true);
        later.submit(1, 1, true);
        later.set(LEARN, 0);
        later.tick(4);
        due("the queued one begins in the tick in which the disk is free", later.count(3), 1);
        due("with all its ticks", later.group(1, 6), 4);
        later.tick(4);
        due("none is written", later.count(3), NONE);
        due("none is queued", later.count(4), 0);
        GroupCommits idle = new GroupCommits();
        idle.submit(0, 8, false);
        idle.tick(1);
        due("gathering", idle.count(2), 0);
        due("nothing is written though the disk is free", idle.count(3), NONE);
        idle.tick(1);
        due("being written in the tick in which it closes", idle.count(3), 0);
        due("no tick is taken yet", idle.group(0, 6), 6);
        due("the commit", idle.commit(0, 3), BEING_WRITTEN);
    }

    private static void queueOrder() {
        sentence = "when a group closes, it is queued, behind all queued groups; the first one is written";
        GroupCommits log = new GroupCommits();
        log.set(FIXED, 3);
        log.submit(0, 1, true);
        log.submit(1, 2, true);
        log.submit(2, 1, true);
        log.set(MOST, 20);
        log.set(LEARN, 0);
        for (int client = 3; client < 12; client++) {
            log.submit(client, 1, true);
        }
        due("eleven are queued", log.count(4), 11);
        for (int place = 0; place < 11; place++) {
            due("place " + place, log.queued(place), place + 1);
            due("state", log.group(place + 1, 0), QUEUED);
        }
        due("no twelfth", log.queued(11), NONE);
        for (int group = 1; group < 12; group++) {
            log.tick(3);
            due("being written", log.count(3), group);
            due("queued", log.count(4), 11 - group);
            due("the next", log.queued(0), group == 11 ? NONE : group + 1);
        }
        GroupCommits tick = new GroupCommits();
        tick.submit(0, 1, true);
        tick.set(LEARN, 0);
        tick.submit(1, 1, true);
        tick.tick(3);
        tick.submit(2, 1, false);
        tick.tick(1);
        due("the one before it is written first", tick.count(3), 1);
        due("what closed in the tick stands behind", tick.queued(0), 2);
        due("closed by its end", tick.group(2, 5), ENDED);
    }

    private static void quarterOfRecords() {
        sentence = "for as many ticks as FIXED plus a quarter of its records (rounded down)";
        for (int records = 1; records <= 47; records++) {
            GroupCommits log = new GroupCommits();
            log.set(FULL_SIZE, 40);
            int client = 0;
            int missing = records;
            while (missing > 8) {
                log.submit(client, missing > 40 ? 7 : 8, false);
                missing -= missing > 40 ? 7 : 8;
                client++;
            }
            log.submit(client, missing, true);
            due("records", log.group(0, 2), records);
            due("ticks of " + records, log.group(0, 6), 4 + Math.floorDiv(records, 4));
        }
        for (int fixed = 1; fixed <= 20; fixed++) {
            GroupCommits log = new GroupCommits();
            log.set(FIXED, fixed);
            log.submit(0, 7, true);
            due("ticks at FIXED " + fixed, log.group(0, 6), fixed + 1);
            due("one too few", log.tick(fixed), 0);
            due("as many", log.tick(1), 1);
        }
    }

    private static void settingAsItIsThen() {
        sentence = "by the setting as it is then";
        GroupCommits log = new GroupCommits();
        log.set(LEARN, 0);
        log.submit(0, 1, true);
        log.submit(1, 1, true);
        log.submit(2, 1, true);
        log.set(FIXED, 20);
        due("what is being written keeps its ticks", log.group(0, 6), 4);
        log.tick(4);
        due("not the setting at the closing", log.group(1, 6), 20);
        log.set(FIXED, 1);
        due("what is being written keeps its ticks", log.group(1, 6), 20);
        due("19 of them", log.tick(19), 0);
        log.set(FIXED, 2);
        due("and the last", log.tick(1), 1);
        due("the next", log.group(2, 6), 2);
    }

    private static void lostMembers() {
        sentence = "all its records are on the disk, and its members that are not lost are answered";
        GroupCommits log = new GroupCommits();
        log.submit(0, 5, false);
        log.submit(1, 6, true);
        log.submit(2, 8, true);
        log.fail(0);
        log.fail(1);
        log.fail(2);
        due("none is busy", log.count(5), 0);
        due("though one is being written", log.count(3), 0);
        due("and one queued", log.queued(0), 1);
        due("none is answered", log.tick(6), 0);
        due("11 records", log.total(6), 11);
        due("one group", log.total(5), 1);
        due("none is answered", log.tick(6), 0);
        due("19 records", log.total(6), 19);
        due("two groups", log.total(5), 2);
        due("answered", log.total(1), 0);
        due("no ticks", log.total(7), 0);
        due("lost", log.total(2), 3);
        due("no mean", log.mean(), 0.0);
    }

    private static void settingNumbers() {
        sentence = "set: NO_SUCH if there is no such setting, before BAD_VALUE";
        GroupCommits log = new GroupCommits();
        for (int setting : outside(MOST, LEARN)) {
            for (int value : new int[] {0, 1, 2, -1, 41, Integer.MIN_VALUE, Integer.MAX_VALUE}) {
                due("setting " + setting + ", value " + value, log.set(setting, value), NO_SUCH);
            }
        }
        due("no action", log.count(10), 0);
        for (int setting = MOST; setting <= LEARN; setting++) {
            due("setting " + setting, log.count(6 + setting), FIRST[setting]);
        }
    }

    private static void settingValues() {
        sentence = "MOST (0 to 20), FULL_SIZE (1 to 40), FIXED (1 to 20), LEARN (0 or 1); set returns the previous value";
        for (int setting = MOST; setting <= LEARN; setting++) {
            GroupCommits log = new GroupCommits();
            for (int value : outside(LEAST[setting], GREATEST[setting])) {
                due("setting " + setting + ", value " + value, log.set(setting, value), BAD_VALUE);
                due("it stays", log.count(6 + setting), FIRST[setting]);
            }
            due("no action", log.count(10), 0);
            int before = FIRST[setting];
            for (int value = LEAST[setting]; value <= GREATEST[setting]; value++) {
                due("setting " + setting + ", value " + value, log.set(setting, value), before);
                due("it is set", log.count(6 + setting), value);
                before = value;
            }
            due("the same value", log.set(setting, before), before);
            for (int other = MOST; other <= LEARN; other++) {
                due("other settings stay", log.count(6 + other), other == setting ? before : FIRST[other]);
            }
        }
        GroupCommits same = new GroupCommits();
        due("the value that it has", same.set(LEARN, 1), 1);
        due("is an action all the same", same.count(10), 1);
    }

    private static void settingChangesNothingElse() {
        sentence = "set changes a setting: no wait, no end, no group closes, what is being written keeps its ticks";
        GroupCommits log = new GroupCommits();
        log.submit(0, 8, true);
        log.submit(1, 4, false);
        log.submit(2, 4, false);
        log.set(MOST, 0);
        log.set(FULL_SIZE, 1);
        log.set(FIXED, 20);
        log.set(LEARN, 0);
        due("the wait", log.count(1), 1);
        int[] gathering = {GATHERING, 2, 8, 1, 1, 0, NONE};
        int[] written = {BEING_WRITTEN, 1, 8, NONE, NONE, URGENT, 6};
        for (int what = 0; what < 7; what++) {
            due("gathering, " + what, log.group(1, what), gathering[what]);
            due("being written, " + what, log.group(0, what), written[what]);
        }
        log.tick(1);
        due("the reason is the end", log.group(1, 5), ENDED);
        due("nothing is learned", log.count(1), 1);
    }
}
