/** For each promise of ../shared/DOC.md: ordinary inputs, the edges that it names, and wrong inputs. */
public final class PromisesTest {
    private static final int NO_SUCH = GroupCommits.NO_SUCH;
    private static final int BAD_VALUE = GroupCommits.BAD_VALUE;
    private static final int TOO_MANY = GroupCommits.TOO_MANY;
    private static final int NOT_POSSIBLE = GroupCommits.NOT_POSSIBLE;
    private static final int NONE = GroupCommits.NONE;
    private static final int MOST = GroupCommits.MOST;
    private static final int FULL_SIZE = GroupCommits.FULL_SIZE;
    private static final int FIXED = GroupCommits.FIXED;
    private static final int LEARN = GroupCommits.LEARN;
    private static final int LEAST_INT = Integer.MIN_VALUE;
    private static final int GREATEST_INT = Integer.MAX_VALUE;

    private static int wrong = 0;
    private static String promise = "";

    private static void due(String what, double got, double want) {
        if (got != want) {
            wrong++;
            System.out.println(promise + ", " + what + ": answered " + got + ", due is " + want);
        }
    }

    private static void write(GroupCommits log, String text) {
        log.clearText();
        for (int i = 0; i < text.length(); i++) {
            log.append(text.charAt(i));
        }
    }

    private static void dueFault(String text, int want) {
        GroupCommits log = new GroupCommits();
        write(log, text);
        due("the fault of '" + text + "'", log.fault(), want);
        if (want == NONE) {
            due("the run of '" + text + "' is not refused", log.run() >= 0 ? 1 : 0, 1);
        } else {
            due("the run of '" + text + "' is refused alike", log.run(), -100 - want);
        }
    }

    /** A log in which 150 commits were submitted, and none of the clients is busy. */
    private static GroupCommits fullLog() {
        GroupCommits log = new GroupCommits();
        for (int i = 0; i < 150; i++) {
            due("submit " + i, log.submit(i % 12, 1, false), i);
            log.fail(i % 12);
        }
        return log;
    }

    public static void main(String[] args) {
        newObject();
        submitting();
        reasonsToClose();
        waits();
        failing();
        withdrawing();
        leaders();
        crashing();
        ticking();
        setting();
        appending();
        clearing();
        faults();
        running();
        undoing();
        snapshots();
        restoringIsAnAction();
        aboutCommits();
        aboutGroups();
        members();
        openCommits();
        queuedGroups();
        counts();
        totals();
        answers();
        ifSubmitted();
        idle();
        means();
        errorsChangeNothing();
        fullRows();
        System.out.println(wrong == 0 ? "all answers are as due" : wrong + " answers are not as due");
        if (wrong != 0) {
            System.exit(1);
        }
    }

    private static void newObject() {
        promise = "promise 1";
        GroupCommits log = new GroupCommits();
        int[] counts = {0, 2, NONE, NONE, 0, 0, 6, 16, 4, 1, 0, 0};
        for (int what = 0; what < counts.length; what++) {
            due("count " + what, log.count(what), counts[what]);
        }
        for (int what = 0; what < 8; what++) {
            due("total " + what, log.total(what), 0);
        }
        for (int client = 0; client < 12; client++) {
            due("open " + client, log.open(client), NONE);
        }
        due("commit", log.commit(0, 0), NO_SUCH);
        due("group", log.group(0, 0), NO_SUCH);
        due("undo", log.undo(), NONE);
        due("restore", log.restore(), NOT_POSSIBLE);
        due("fault", log.fault(), 0);
        due("mean", log.mean(), 0.0);
    }

    private static void submitting() {
        promise = "promise 2";
        GroupCommits log = new GroupCommits();
        due("no client -1", log.submit(-1, 1, false), NO_SUCH);
        due("no client 12", log.submit(12, 1, false), NO_SUCH);
        due("no least client", log.submit(LEAST_INT, 1, false), NO_SUCH);
        due("no greatest client", log.submit(GREATEST_INT, 1, false), NO_SUCH);
        due("the client goes first", log.submit(12, 0, false), NO_SUCH);
        due("0 records", log.submit(0, 0, false), BAD_VALUE);
        due("9 records", log.submit(0, 9, false), BAD_VALUE);
        due("least records", log.submit(0, LEAST_INT, false), BAD_VALUE);
        due("nothing in the history", log.count(10), 0);
        due("first client", log.submit(0, 1, false), 0);
        due("last client", log.submit(11, 8, false), 1);
        due("busy", log.submit(11, 8, false), NOT_POSSIBLE);
        due("records before busy", log.submit(11, 9, false), BAD_VALUE);
        due("history", log.count(10), 2);
        due("same group", log.commit(1, 6), 0);
        due("busy while queued or written", busyAfterClosing(), NOT_POSSIBLE);
        log.fail(11);
        due("free after a failure", log.submit(11, 2, false), 2);
        GroupCommits full = fullLog();
        due("too many", full.submit(0, 1, false), TOO_MANY);
        due("records before too many", full.submit(0, 0, false), BAD_VALUE);
        due("client before too many", full.submit(12, 0, false), NO_SUCH);
        due("150 submitted", full.total(0), 150);
        full.undo();
        due("the open one again", full.open(5), 149);
        due("busy before too many", full.submit(5, 1, false), NOT_POSSIBLE);
        due("too many for another", full.submit(6, 1, false), TOO_MANY);
        full.undo();
        due("there is room again", full.submit(6, 1, true), 149);
    }

    private static int busyAfterClosing() {
        GroupCommits log = new GroupCommits();
        log.submit(0, 1, true);
        log.submit(1, 1, true);
        due("being written", log.submit(0, 1, true), NOT_POSSIBLE);
        return log.submit(1, 1, true);
    }

    private static void reasonsToClose() {
        promise = "groups";
        GroupCommits log = new GroupCommits();
        log.set(FULL_SIZE, 10);
        log.submit(0, 8, false);
        due("gathers", log.group(0, 5), 0);
        log.submit(1, 1, false);
        due("one record too few", log.group(0, 0), 1);
        log.submit(2, 1, false);
        due("full", log.group(0, 5), 2);
        due("is being written", log.group(0, 0), 3);
        log.submit(3, 8, false);
        log.submit(4, 8, true);
        due("urgent comes before full", log.group(1, 5), 1);
        due("is queued", log.group(1, 0), 2);
        log.submit(5, 8, false);
        log.set(FULL_SIZE, 1);
        due("a setting closes nothing", log.group(2, 0), 1);
        log.tick(1);
        due("nor does a tick before the end", log.group(2, 0), 1);
        log.submit(6, 1, false);
        due("the next commit does", log.group(2, 5), 2);
        GroupCommits late = new GroupCommits();
        late.set(MOST, 0);
        late.submit(0, 1, true);
        late.submit(1, 1, true);
        due("the wait is 0", late.count(1), 0);
        late.submit(2, 8, false);
        due("the end has come at once", late.group(2, 5), 3);
        late.set(FULL_SIZE, 8);
        late.submit(3, 8, false);
        due("full comes before the end", late.group(3, 5), 2);
        late.submit(4, 1, true);
        due("urgent comes before the end", late.group(4, 5), 1);
        GroupCommits ended = new GroupCommits();
        ended.submit(0, 1, false);
        ended.tick(1);
        due("not before the end", ended.group(0, 5), 0);
        ended.tick(1);
        due("in the tick of the end", ended.group(0, 5), 3);
        GroupCommits greatest = new GroupCommits();
        greatest.set(FULL_SIZE, 40);
        for (int client = 0; client < 4; client++) {
            greatest.submit(client, 8, false);
        }
        greatest.submit(4, 7, false);
        due("39 records", greatest.group(0, 0), 1);
        greatest.submit(5, 1, false);
        due("40 records", greatest.group(0, 5), 2);
    }

    private static void waits() {
        promise = "the wait";
        GroupCommits log = new GroupCommits();
        log.submit(0, 1, true);
        due("1 less", log.count(1), 1);
        log.submit(1, 1, true);
        log.submit(2, 1, true);
        due("not below 0", log.count(1), 0);
        GroupCommits more = new GroupCommits();
        more.set(MOST, 3);
        pair(more);
        due("1 more", more.count(1), 3);
        pair(more);
        due("at most MOST", more.count(1), 3);
        more.set(MOST, 1);
        due("a setting does not change it", more.count(1), 3);
        more.submit(0, 1, true);
        due("1 less above MOST", more.count(1), 2);
        more.tick(50);
        pair(more);
        due("becomes MOST", more.count(1), 1);
        more.set(LEARN, 0);
        more.set(MOST, 20);
        pair(more);
        due("does not learn", more.count(1), 1);
        more.set(LEARN, 1);
        pair(more);
        due("learns again", more.count(1), 2);
        GroupCommits withdrawn = new GroupCommits();
        withdrawn.submit(0, 1, false);
        withdrawn.submit(1, 1, false);
        withdrawn.withdraw(0);
        due("withdrawing teaches nothing", withdrawn.count(1), 2);
        withdrawn.tick(2);
        due("one member is left", withdrawn.count(1), 1);
        GroupCommits gone = new GroupCommits();
        gone.submit(0, 1, false);
        gone.withdraw(0);
        due("a group that is gone teaches nothing", gone.count(1), 2);
    }

    private static void pair(GroupCommits log) {
        log.submit(0, 1, false);
        log.submit(1, 1, true);
        log.tick(50);
    }

    private static void failing() {
        promise = "promise 3";
        GroupCommits log = new GroupCommits();
        due("no client -1", log.fail(-1), NO_SUCH);
        due("no client 12", log.fail(12), NO_SUCH);
        due("no least client", log.fail(LEAST_INT), NO_SUCH);
        due("no action", log.count(10), 0);
        due("not busy", log.fail(11), NONE);
        due("an action all the same", log.count(10), 1);
        log.submit(0, 3, false);
        log.submit(1, 4, false);
        due("gathering", log.fail(1), 1);
        due("is lost", log.commit(1, 3), 5);
        due("is no member", log.group(0, 1), 1);
        due("no records", log.group(0, 2), 3);
        due("the end stays", log.group(0, 4), 2);
        due("not busy", log.open(1), NONE);
        due("submits again", log.submit(1, 5, true), 2);
        due("being written", log.fail(0), 0);
        due("is lost", log.commit(0, 3), 5);
        due("remains a member", log.member(0, 0), 0);
        log.submit(2, 6, true);
        due("queued", log.fail(2), 3);
        due("remains in the queue", log.queued(0), 1);
        due("only the others are answered", log.tick(50), 1);
        due("answered", log.commit(2, 3), 4);
        due("stays lost", log.commit(0, 3), 5);
        due("has no time", log.commit(0, 5), NONE);
        due("stays lost", log.commit(3, 3), 5);
        due("all records are on the disk", log.total(6), 14);
        due("lost", log.total(2), 3);
        due("written groups", log.total(5), 2);
        log.submit(4, 1, false);
        due("the last one", log.fail(4), 4);
        due("gone", log.group(2, 0), 5);
        due("no group gathers", log.count(2), NONE);
        log.undo();
        due("undone", log.open(4), 4);
        log.fail(4);
        due("an answered client is not busy", log.fail(1), NONE);
    }

    private static void withdrawing() {
        promise = "promise 4";
        GroupCommits log = new GroupCommits();
        due("no client -1", log.withdraw(-1), NO_SUCH);
        due("no client 12", log.withdraw(12), NO_SUCH);
        due("not busy", log.withdraw(0), NOT_POSSIBLE);
        due("no action", log.count(10), 0);
        log.submit(0, 1, false);
        log.submit(1, 2, false);
        log.submit(2, 3, false);
        due("two are left", log.withdraw(1), 2);
        due("withdrawn", log.commit(1, 3), 6);
        due("not busy", log.open(1), NONE);
        due("not again", log.withdraw(1), NOT_POSSIBLE);
        log.undo();
        due("undone", log.open(1), 1);
        due("withdrawn anew", log.withdraw(1), 2);
        due("its group yet", log.commit(1, 6), 0);
        due("second member", log.member(0, 1), 2);
        due("records", log.group(0, 2), 4);
        due("one is left", log.withdraw(2), 1);
        due("none is left", log.withdraw(0), 0);
        due("gone", log.group(0, 0), 5);
        due("without members", log.group(0, 1), 0);
        due("without records", log.group(0, 2), 0);
        due("has not closed", log.group(0, 5), 0);
        due("withdrawn", log.total(3), 3);
        due("not lost", log.total(2), 0);
        due("a new group", log.submit(0, 1, true), 3);
        due("its number", log.commit(3, 6), 1);
        due("being written", log.withdraw(0), NOT_POSSIBLE);
        log.submit(1, 1, true);
        due("queued", log.withdraw(1), NOT_POSSIBLE);
    }

    private static void leaders() {
        promise = "failures";
        GroupCommits log = new GroupCommits();
        log.submit(7, 1, false);
        log.tick(1);
        log.submit(5, 1, false);
        log.submit(3, 1, false);
        due("the leader", log.group(0, 3), 7);
        due("the end", log.group(0, 4), 2);
        log.withdraw(7);
        due("the next leader", log.group(0, 3), 5);
        due("a new end", log.group(0, 4), 3);
        log.fail(5);
        due("the last leader", log.group(0, 3), 3);
        log.tick(1);
        due("not closed at the old end", log.group(0, 0), 1);
        log.tick(1);
        due("closed at the new end", log.group(0, 5), 3);
        GroupCommits zero = new GroupCommits();
        zero.submit(0, 1, true);
        due("the wait", zero.count(1), 1);
        zero.submit(1, 1, false);
        zero.submit(2, 1, false);
        zero.withdraw(1);
        due("the end is the time plus the wait", zero.group(1, 4), 1);
        due("answered in", zero.answeredIn(2), 8);
    }

    private static void crashing() {
        promise = "promise 5";
        GroupCommits log = new GroupCommits();
        due("nothing to lose", log.crash(), 0);
        due("an action", log.count(10), 1);
        log.submit(0, 1, true);
        log.submit(1, 2, false);
        log.submit(2, 3, true);
        log.submit(3, 4, true);
        log.submit(4, 5, false);
        log.fail(2);
        due("all but the lost one", log.crash(), 4);
        due("lost", log.total(2), 5);
        for (int group = 0; group < 4; group++) {
            due("gone " + group, log.group(group, 0), 5);
            due("takes no ticks " + group, log.group(group, 6), NONE);
        }
        due("its members", log.group(1, 1), 2);
        due("its records", log.group(1, 2), 5);
        due("a member", log.member(1, 1), 2);
        due("the reason stays", log.group(1, 5), 1);
        due("had not closed", log.group(3, 5), 0);
        due("no leader", log.group(3, 3), NONE);
        due("no end", log.group(3, 4), NONE);
        due("no queue", log.count(4), 0);
        due("none is written", log.count(3), NONE);
        due("none gathers", log.count(2), NONE);
        due("none is busy", log.count(5), 0);
        due("nothing comes", log.tick(99), 0);
        due("nothing is on the disk", log.total(6), 0);
        due("submits again", log.submit(1, 1, true), 5);
        due("in a new group", log.commit(5, 6), 4);
        due("is written", log.tick(4), 1);
    }

    private static void ticking() {
        promise = "promise 6";
        GroupCommits log = new GroupCommits();
        due("0", log.tick(0), BAD_VALUE);
        due("-1", log.tick(-1), BAD_VALUE);
        due("100", log.tick(100), BAD_VALUE);
        due("least", log.tick(LEAST_INT), BAD_VALUE);
        due("no action", log.count(10), 0);
        due("1", log.tick(1), 0);
        due("99", log.tick(99), 0);
        due("the time", log.count(0), 100);
        log.submit(0, 8, false);
        log.submit(1, 3, true);
        log.submit(2, 4, true);
        due("11 records take 4 + 2", log.group(0, 6), 6);
        due("five ticks", log.tick(5), 0);
        due("one left", log.group(0, 6), 1);
        due("both are answered", log.tick(1), 2);
        due("written", log.group(0, 0), 4);
        due("the next begins in this tick", log.count(3), 1);
        due("4 + 1", log.group(1, 6), 5);
        log.submit(3, 1, true);
        log.set(FIXED, 20);
        due("what is written keeps its ticks", log.tick(5), 1);
        due("the setting as it is then", log.group(2, 6), 20);
        due("answered at", log.commit(2, 5), 111);
        GroupCommits together = new GroupCommits();
        together.submit(0, 1, true);
        together.tick(3);
        together.submit(1, 1, false);
        due("one is answered in the tick", together.tick(1), 1);
        due("and the other group begins", together.count(3), 1);
        due("by its end", together.group(1, 5), 3);
        due("with all ticks", together.group(1, 6), 4);
        due("takes them", together.tick(3), 0);
        due("and is answered", together.tick(1), 1);
    }

    private static void setting() {
        promise = "promise 7";
        GroupCommits log = new GroupCommits();
        int[] least = {0, 1, 1, 0};
        int[] greatest = {20, 40, 20, 1};
        int[] first = {6, 16, 4, 1};
        for (int setting = 0; setting < 4; setting++) {
            due("too small " + setting, log.set(setting, least[setting] - 1), BAD_VALUE);
            due("too great " + setting, log.set(setting, greatest[setting] + 1), BAD_VALUE);
            due("smallest int " + setting, log.set(setting, LEAST_INT), BAD_VALUE);
            due("greatest int " + setting, log.set(setting, GREATEST_INT), BAD_VALUE);
            due("unchanged " + setting, log.set(setting, least[setting]), first[setting]);
            due("greatest " + setting, log.set(setting, greatest[setting]), least[setting]);
            due("is set " + setting, log.count(6 + setting), greatest[setting]);
        }
        due("no setting -1", log.set(-1, 1), NO_SUCH);
        due("no setting 4", log.set(4, -1), NO_SUCH);
        due("no least setting", log.set(LEAST_INT, 1), NO_SUCH);
        due("the same value", log.set(LEARN, 1), 1);
        due("history", log.count(10), 4);
        due("the constants", MOST + 10 * FULL_SIZE + 100 * FIXED + 1000 * LEARN, 3210);
    }

    private static void appending() {
        promise = "promise 8";
        GroupCommits log = new GroupCommits();
        due("31", log.append(31), BAD_VALUE);
        due("127", log.append(127), BAD_VALUE);
        due("-1", log.append(-1), BAD_VALUE);
        due("a digit in 16 bits", log.append(65536 + '0'), BAD_VALUE);
        due("32", log.append(32), 1);
        due("126", log.append(126), 2);
        for (int length = 3; length <= 80; length++) {
            due("the length", log.append('x'), length);
        }
        due("too many", log.append('x'), TOO_MANY);
        due("range before too many", log.append(31), BAD_VALUE);
        due("the length", log.count(11), 80);
        due("no action", log.count(10), 0);
    }

    private static void clearing() {
        promise = "promise 9";
        GroupCommits log = new GroupCommits();
        due("empty", log.clearText(), 0);
        write(log, "f1;f2");
        due("five", log.clearText(), 5);
        due("empty again", log.count(11), 0);
        due("no action", log.count(10), 0);
        due("from the start", log.append('*'), 1);
        due("a script", log.fault(), NONE);
    }

    private static void faults() {
        promise = "promise 10";
        String[] scripts = {"*", "f0", "f1", "f10", "f11", "f9", "w0", "w1", "w10", "w11", "w9", "+1", "+9", "+10", "+99",
            "0:1", "1:8", "10:4", "11:4!", "9:1!", "2:8;1:1;*;f3;w4;+9;10:1!;*"};
        for (String script : scripts) {
            dueFault(script, NONE);
            dueFault(script + ";", script.length() + 1);
            dueFault(script + ";;", script.length() + 1);
            dueFault(script + " ", script.length());
            dueFault(script + ";x", script.length() + 1);
            dueFault(";" + script, 0);
        }
        String[] unfinished = {"", "f", "w", "+", "0", "1", "10", "11", "5", "0:", "1:", "10:", "11:", "*;", "*;1", "0:1;f"};
        for (String text : unfinished) {
            dueFault(text, text.length());
        }
        dueFault("00", 1);
        dueFault("01:1", 1);
        dueFault("12:1", 1);
        dueFault("20:1", 1);
        dueFault("100:1", 2);
        dueFault("0:0", 2);
        dueFault("0:9", 2);
        dueFault("0:11", 3);
        dueFault("0:1!!", 4);
        dueFault("0!", 1);
        dueFault("0:!", 2);
        dueFault("1;", 1);
        dueFault("1!", 1);
        dueFault("10;", 2);
        dueFault("f:", 1);
        dueFault("f;", 1);
        dueFault("f00", 2);
        dueFault("f12", 2);
        dueFault("f20", 2);
        dueFault("f110", 3);
        dueFault("f1!", 2);
        dueFault("w12", 2);
        dueFault("w-1", 1);
        dueFault("F1", 0);
        dueFault("W1", 0);
        dueFault("+0", 1);
        dueFault("+;", 1);
        dueFault("+100", 3);
        dueFault("+1!", 2);
        dueFault("**", 1);
        dueFault("*1", 1);
        dueFault("*!", 1);
        dueFault(":1", 0);
        dueFault("!", 0);
        dueFault("-1", 0);
        dueFault(" *", 0);
        dueFault("/:1", 0);
        dueFault("f/", 1);
        dueFault("f:", 1);
        dueFault("+/", 1);
        dueFault("+1/", 2);
        dueFault("+1:", 2);
        dueFault("+99;".repeat(20), 80);
        dueFault("+99;".repeat(19) + "+99", NONE);
        dueFault("+99;".repeat(19) + "10:1", NONE);
    }

    private static void running() {
        promise = "promise 11";
        GroupCommits log = new GroupCommits();
        due("empty", log.run(), -100);
        write(log, "f");
        due("unfinished", log.run(), -101);
        due("no action", log.count(10), 0);
        write(log, "10:4;11:2;0:1!;f5;f11;+5;w0");
        due("seven orders, the last is refused", log.run(), 6);
        due("one action", log.count(10), 1);
        due("the text stays", log.count(11), 27);
        due("client", log.commit(0, 0), 10);
        due("records", log.commit(1, 1), 2);
        due("urgent", log.commit(2, 2), 1);
        due("not urgent", log.commit(1, 2), 0);
        due("lost", log.commit(1, 3), 5);
        due("answered", log.commit(0, 3), 4);
        due("the time", log.count(0), 5);
        due("undo", log.undo(), 0);
        due("all is undone", log.total(0), 0);
        write(log, "w11;*");
        due("the first is refused", log.run(), 0);
        due("an action all the same", log.count(10), 1);
        write(log, "3:1;w3;3:8;f3;f3;*;+99;3:8!;*;+10;+1;+9");
        due("all", log.run(), 12);
        due("the time", log.count(0), 119);
        due("lost", log.total(2), 2);
        due("withdrawn", log.total(3), 1);
        write(log, "1:1;1:2");
        due("busy", log.run(), 1);
        write(log, "1:1");
        due("busy at once", log.run(), 0);
        write(log, "w1;w1");
        due("not gathering any more", log.run(), 1);
        GroupCommits twenty = new GroupCommits();
        write(twenty, "0:8!" + ";+99".repeat(19));
        due("a long one", twenty.run(), 20);
        due("its time", twenty.count(0), 19 * 99);
        GroupCommits many = new GroupCommits();
        write(many, "*;".repeat(39) + "*");
        due("forty orders", many.run(), 40);
        due("one state", many.count(10), 1);
        GroupCommits full = fullLog();
        write(full, "+1;0:1;+1");
        due("too many", full.run(), 1);
    }

    private static void undoing() {
        promise = "promise 12";
        GroupCommits log = new GroupCommits();
        due("empty", log.undo(), NONE);
        log.submit(0, 1, false);
        log.submit(1, 2, false);
        log.tick(2);
        log.set(MOST, 9);
        log.fail(0);
        log.crash();
        due("at most four", log.count(10), 4);
        write(log, "f1");
        due("three are left", log.undo(), 3);
        due("being written again", log.group(0, 0), 3);
        due("lost yet", log.commit(0, 3), 5);
        due("two are left", log.undo(), 2);
        due("open again", log.open(0), 0);
        due("one is left", log.undo(), 1);
        due("the setting", log.count(6), 6);
        due("the time", log.count(0), 2);
        due("the wait", log.count(1), 3);
        due("none is left", log.undo(), 0);
        due("the time", log.count(0), 0);
        due("the wait", log.count(1), 2);
        due("gathering", log.group(0, 0), 1);
        due("the end", log.group(0, 4), 2);
        due("no reason", log.group(0, 5), 0);
        due("nothing more", log.undo(), NONE);
        due("two commits are left", log.total(0), 2);
        due("the text stays", log.count(11), 2);
        due("it goes on as before", log.tick(6), 2);
        due("the state before it", log.undo(), 0);
        due("it goes on as before", log.tick(6), 2);
        for (int round = 0; round < 9; round++) {
            log.tick(1);
        }
        due("four", log.undo(), 3);
        log.tick(2);
        due("four again", log.count(10), 4);
        log.undo();
        log.undo();
        log.undo();
        due("the oldest", log.undo(), 0);
        due("its time", log.count(0), 11);
    }

    private static void snapshots() {
        promise = "promise 13";
        GroupCommits log = new GroupCommits();
        log.tick(7);
        due("the time", log.save(), 7);
        due("not an action", log.count(10), 1);
        log.submit(0, 1, true);
        log.tick(3);
        due("replaces the previous one", log.save(), 10);
        log.crash();
        due("restored", log.restore(), 10);
        due("as it was", log.commit(0, 3), 3);
        due("its ticks", log.group(0, 6), 1);
        log.undo();
        log.undo();
        log.undo();
        due("undone", log.count(0), 7);
        due("the snapshot stays", log.restore(), 10);
    }

    private static void restoringIsAnAction() {
        promise = "promise 14";
        GroupCommits log = new GroupCommits();
        due("no snapshot", log.restore(), NOT_POSSIBLE);
        due("no action", log.count(10), 0);
        log.save();
        log.submit(0, 1, false);
        log.tick(9);
        write(log, "w");
        due("restored", log.restore(), 0);
        due("an action", log.count(10), 3);
        due("nothing submitted", log.total(0), 0);
        due("the text stays", log.count(11), 1);
        due("its undo", log.undo(), 2);
        due("the time before it", log.count(0), 9);
        due("the commit before it", log.commit(0, 3), 4);
        log.restore();
        log.submit(3, 2, false);
        due("the snapshot is not the present state", log.restore(), 0);
        due("nothing submitted", log.total(0), 0);
        due("history", log.count(10), 4);
    }

    private static void aboutCommits() {
        promise = "promise 15";
        GroupCommits log = new GroupCommits();
        log.tick(3);
        log.submit(4, 7, false);
        log.submit(9, 2, true);
        int[] first = {4, 7, 0, 3, 3, NONE, 0};
        int[] second = {9, 2, 1, 3, 3, NONE, 0};
        for (int what = 0; what < 7; what++) {
            due("the first, " + what, log.commit(0, what), first[what]);
            due("the second, " + what, log.commit(1, what), second[what]);
        }
        due("no commit 2", log.commit(2, 0), NO_SUCH);
        due("no commit -1", log.commit(-1, 0), NO_SUCH);
        due("no least commit", log.commit(LEAST_INT, 0), NO_SUCH);
        due("no greatest commit", log.commit(GREATEST_INT, 99), NO_SUCH);
        due("what -1", log.commit(0, -1), BAD_VALUE);
        due("what 7", log.commit(0, 7), BAD_VALUE);
        log.submit(1, 1, true);
        log.submit(2, 1, false);
        log.submit(3, 1, false);
        log.withdraw(3);
        due("queued", log.commit(2, 3), 2);
        due("gathering", log.commit(3, 3), 1);
        due("withdrawn", log.commit(4, 3), 6);
        due("was a member", log.commit(4, 6), 2);
        log.tick(6);
        due("answered", log.commit(0, 3), 4);
        due("at", log.commit(0, 5), 9);
        due("submitted at", log.commit(0, 4), 3);
        due("being written", log.commit(2, 3), 3);
    }

    private static void aboutGroups() {
        promise = "promise 16";
        GroupCommits log = new GroupCommits();
        due("none", log.group(0, 0), NO_SUCH);
        log.tick(3);
        log.submit(4, 7, false);
        log.submit(9, 2, false);
        int[] gathering = {1, 2, 9, 4, 5, 0, NONE};
        for (int what = 0; what < 7; what++) {
            due("gathering, " + what, log.group(0, what), gathering[what]);
        }
        log.submit(1, 3, true);
        log.submit(2, 1, true);
        int[] written = {3, 3, 12, NONE, NONE, 1, 7};
        int[] queued = {2, 1, 1, NONE, NONE, 1, NONE};
        for (int what = 0; what < 7; what++) {
            due("being written, " + what, log.group(0, what), written[what]);
            due("queued, " + what, log.group(1, what), queued[what]);
        }
        due("no group -1", log.group(-1, 0), NO_SUCH);
        due("no group 2", log.group(2, 9), NO_SUCH);
        due("no least group", log.group(LEAST_INT, 0), NO_SUCH);
        due("what -1", log.group(0, -1), BAD_VALUE);
        due("what 7", log.group(0, 7), BAD_VALUE);
        log.tick(7);
        int[] done = {4, 3, 12, NONE, NONE, 1, NONE};
        for (int what = 0; what < 7; what++) {
            due("written, " + what, log.group(0, what), done[what]);
        }
        log.crash();
        due("gone", log.group(1, 0), 5);
        due("a written one stays", log.group(0, 0), 4);
    }

    private static void members() {
        promise = "promise 17";
        GroupCommits log = new GroupCommits();
        due("no group", log.member(0, -1), NO_SUCH);
        log.submit(5, 1, false);
        log.submit(3, 1, false);
        log.submit(8, 1, false);
        due("first", log.member(0, 0), 0);
        due("third", log.member(0, 2), 2);
        due("fourth", log.member(0, 3), NONE);
        due("greatest place", log.member(0, GREATEST_INT), NONE);
        due("below 0", log.member(0, -1), BAD_VALUE);
        due("least place", log.member(0, LEAST_INT), BAD_VALUE);
        due("no group -1", log.member(-1, 0), NO_SUCH);
        due("no group 1", log.member(1, 0), NO_SUCH);
        log.withdraw(3);
        due("the third is second", log.member(0, 1), 2);
        due("no third", log.member(0, 2), NONE);
        log.submit(3, 1, true);
        due("comes last", log.member(0, 2), 3);
        log.submit(11, 1, true);
        due("of the next group", log.member(1, 0), 4);
        due("no more of it", log.member(1, 1), NONE);
    }

    private static void openCommits() {
        promise = "promise 18";
        GroupCommits log = new GroupCommits();
        due("no client -1", log.open(-1), NO_SUCH);
        due("no client 12", log.open(12), NO_SUCH);
        due("no least client", log.open(LEAST_INT), NO_SUCH);
        due("not busy", log.open(11), NONE);
        log.submit(3, 1, false);
        log.submit(11, 1, true);
        log.submit(4, 1, true);
        log.submit(5, 1, false);
        due("being written", log.open(11), 1);
        due("queued", log.open(4), 2);
        due("gathering", log.open(5), 3);
        due("another", log.open(6), NONE);
        log.tick(4);
        due("answered", log.open(11), NONE);
        due("being written", log.open(4), 2);
    }

    private static void queuedGroups() {
        promise = "promise 19";
        GroupCommits log = new GroupCommits();
        due("below 0", log.queued(-1), BAD_VALUE);
        due("least", log.queued(LEAST_INT), BAD_VALUE);
        due("none", log.queued(0), NONE);
        log.set(LEARN, 0);
        log.submit(0, 1, true);
        due("it is being written", log.queued(0), NONE);
        log.submit(1, 1, true);
        log.submit(2, 1, false);
        log.withdraw(2);
        log.submit(3, 1, true);
        due("first", log.queued(0), 1);
        due("second", log.queued(1), 3);
        due("third", log.queued(2), NONE);
        due("greatest", log.queued(GREATEST_INT), NONE);
        log.tick(4);
        due("moves up", log.queued(0), 3);
        due("no second", log.queued(1), NONE);
    }

    private static void counts() {
        promise = "promise 20";
        GroupCommits log = new GroupCommits();
        log.tick(5);
        log.submit(0, 1, true);
        log.submit(1, 1, true);
        log.submit(2, 1, true);
        log.set(MOST, 20);
        log.set(FULL_SIZE, 21);
        log.set(FIXED, 13);
        log.submit(3, 1, false);
        log.append('0');
        int[] counts = {5, 0, NONE, 0, 3, 4, 20, 21, 13, 1, 4, 1};
        for (int what = 0; what < counts.length; what++) {
            due("what " + what, log.count(what), counts[what]);
        }
        log.set(LEARN, 0);
        due("LEARN", log.count(9), 0);
        due("-1", log.count(-1), BAD_VALUE);
        due("12", log.count(12), BAD_VALUE);
        due("least", log.count(LEAST_INT), BAD_VALUE);
        GroupCommits gathers = new GroupCommits();
        gathers.submit(0, 1, true);
        gathers.submit(1, 1, false);
        due("the gathering one", gathers.count(2), 1);
        gathers.fail(0);
        due("a lost one does not make busy", gathers.count(5), 1);
    }

    private static void totals() {
        promise = "promise 21";
        GroupCommits log = new GroupCommits();
        log.submit(0, 5, false);
        log.submit(1, 5, false);
        log.tick(1);
        log.submit(2, 1, false);
        log.submit(3, 1, false);
        log.withdraw(2);
        log.fail(1);
        log.tick(1);
        log.fail(3);
        log.tick(5);
        log.submit(4, 8, false);
        int[] totals = {5, 1, 2, 1, 2, 1, 6, 7};
        for (int what = 0; what < totals.length; what++) {
            due("what " + what, log.total(what), totals[what]);
        }
        due("-1", log.total(-1), BAD_VALUE);
        due("8", log.total(8), BAD_VALUE);
        due("least", log.total(LEAST_INT), BAD_VALUE);
        due("greatest", log.total(GREATEST_INT), BAD_VALUE);
        log.undo();
        due("undone", log.total(0), 4);
        log.undo();
        due("undone", log.total(1), 0);
        due("undone", log.total(6), 0);
    }

    private static void answers() {
        promise = "promise 22";
        GroupCommits log = new GroupCommits();
        due("no client -1", log.answeredIn(-1), NO_SUCH);
        due("no client 12", log.answeredIn(12), NO_SUCH);
        due("not busy", log.answeredIn(0), NONE);
        log.submit(0, 8, true);
        log.submit(1, 4, true);
        log.submit(2, 1, true);
        due("wait 0", log.count(1), 0);
        due("being written", log.answeredIn(0), 6);
        due("queued", log.answeredIn(1), 11);
        due("queued behind", log.answeredIn(2), 15);
        log.tick(2);
        due("later", log.answeredIn(1), 9);
        log.fail(1);
        due("lost", log.answeredIn(1), NONE);
        due("its group is written all the same", log.answeredIn(2), 13);
        log.set(FIXED, 10);
        due("the setting now", log.answeredIn(2), 25);
        due("what is written keeps its ticks", log.answeredIn(0), 4);
        due("nothing is changed", log.count(0), 2);
        GroupCommits alone = new GroupCommits();
        alone.set(FIXED, 1);
        alone.submit(0, 1, false);
        due("gathering", alone.answeredIn(0), 3);
        alone.tick(1);
        due("gathering, later", alone.answeredIn(0), 2);
        GroupCommits behind = new GroupCommits();
        behind.submit(0, 8, true);
        behind.submit(1, 3, false);
        due("gathering behind", behind.answeredIn(1), 10);
    }

    private static void ifSubmitted() {
        promise = "promise 23";
        GroupCommits log = new GroupCommits();
        due("0 records", log.ifSubmitted(0, false), BAD_VALUE);
        due("9 records", log.ifSubmitted(9, true), BAD_VALUE);
        due("least records", log.ifSubmitted(LEAST_INT, true), BAD_VALUE);
        due("alone", log.ifSubmitted(1, false), 6);
        due("urgent", log.ifSubmitted(8, true), 6);
        log.set(FULL_SIZE, 8);
        due("full", log.ifSubmitted(8, false), 6);
        due("not full", log.ifSubmitted(7, false), 7);
        log.submit(0, 3, false);
        log.tick(1);
        due("joins", log.ifSubmitted(4, false), 6);
        due("makes it full", log.ifSubmitted(5, false), 6);
        due("makes it urgent", log.ifSubmitted(1, true), 5);
        due("nothing is changed", log.total(0), 1);
        due("no action", log.count(10), 3);
        log.submit(1, 1, true);
        log.submit(2, 8, true);
        due("a new group behind", log.ifSubmitted(1, false), 5 + 6 + 4);
        due("an urgent one behind", log.ifSubmitted(4, true), 5 + 6 + 5);
        for (int client = 3; client < 12; client++) {
            due("one is free", log.ifSubmitted(1, true) > 0 ? 1 : 0, 1);
            log.submit(client, 1, true);
        }
        due("all are busy", log.ifSubmitted(1, true), NOT_POSSIBLE);
        due("records before busy", log.ifSubmitted(9, true), BAD_VALUE);
        GroupCommits full = fullLog();
        due("too many", full.ifSubmitted(1, true), TOO_MANY);
        due("records before too many", full.ifSubmitted(0, true), BAD_VALUE);
        due("too many before busy", tooManyAndBusy().ifSubmitted(1, true), TOO_MANY);
        GroupCommits zero = new GroupCommits();
        zero.set(MOST, 0);
        zero.submit(0, 1, true);
        zero.submit(1, 1, true);
        zero.tick(50);
        due("the end has come at once", zero.ifSubmitted(1, false), 4);
    }

    private static GroupCommits tooManyAndBusy() {
        GroupCommits log = new GroupCommits();
        for (int i = 0; i < 138; i++) {
            log.submit(0, 1, false);
            log.withdraw(0);
        }
        for (int client = 0; client < 12; client++) {
            log.submit(client, 1, true);
        }
        due("150 submitted", log.total(0), 150);
        due("12 busy", log.count(5), 12);
        return log;
    }

    private static void idle() {
        promise = "promise 24";
        GroupCommits log = new GroupCommits();
        due("now", log.idleIn(), 0);
        log.set(LEARN, 0);
        log.submit(0, 8, true);
        log.submit(1, 4, true);
        log.submit(2, 1, false);
        due("the last one", log.idleIn(), 6 + 5 + 4);
        log.withdraw(2);
        due("the queued one", log.idleIn(), 11);
        log.fail(1);
        due("a lost one is not waited for", log.idleIn(), 6);
        log.tick(5);
        due("one tick", log.idleIn(), 1);
        log.fail(0);
        due("no client is busy, though a group is written", log.idleIn(), 0);
        due("nothing is changed", log.count(3), 0);
    }

    private static void means() {
        promise = "promise 25";
        GroupCommits log = new GroupCommits();
        log.submit(0, 1, false);
        log.tick(5);
        due("none is answered", log.mean(), 0.0);
        log.tick(1);
        due("6 ticks", log.mean(), 6.0);
        log.submit(1, 1, true);
        log.tick(50);
        due("10 by 2", log.mean(), 5.0);
        log.submit(1, 1, true);
        log.tick(50);
        due("14 by 3", log.mean(), 14.0 / 3.0);
        due("its sum", log.total(7), 14);
    }

    private static void errorsChangeNothing() {
        promise = "errors";
        GroupCommits log = new GroupCommits();
        for (int round = 0; round < 3; round++) {
            log.tick(1);
        }
        log.submit(0, 1, false);
        log.tick(1);
        log.submit(0, 1, true);
        log.submit(99, 1, true);
        log.submit(1, 99, true);
        log.fail(99);
        log.withdraw(1);
        log.withdraw(99);
        log.tick(0);
        log.set(9, 9);
        log.set(0, 99);
        log.run();
        log.restore();
        due("the time", log.count(0), 4);
        due("history", log.undo(), 3);
        due("the time before the tick", log.count(0), 3);
        due("history", log.undo(), 2);
        due("before the commit", log.total(0), 0);
    }

    /** 150 commits in 150 groups, of which 149 are queued, all with lost members. */
    private static void fullRows() {
        promise = "full rows";
        GroupCommits log = new GroupCommits();
        log.set(FIXED, 20);
        for (int i = 0; i < 150; i++) {
            due("submit", log.submit(0, 8, true), i);
            if (i < 149) {
                due("fail", log.fail(0), i);
            }
        }
        due("queued groups", log.count(4), 149);
        due("the last queued one", log.queued(148), 149);
        due("no more", log.queued(149), NONE);
        due("the last member", log.member(149, 0), 149);
        due("no second member", log.member(149, 1), NONE);
        due("no such group", log.group(150, 0), NO_SUCH);
        due("no such commit", log.commit(150, 0), NO_SUCH);
        due("the last one is answered in", log.answeredIn(0), 150 * 22);
        due("idle in", log.idleIn(), 150 * 22);
        due("too many", log.ifSubmitted(1, true), TOO_MANY);
        for (int round = 0; round < 33; round++) {
            due("none is answered", log.tick(99), 0);
        }
        due("one is answered", log.tick(99), 1);
        due("at", log.commit(149, 5), 3300);
        due("records on the disk", log.total(6), 1200);
        due("written groups", log.total(5), 150);
        due("undone", log.undo(), 3);
        due("the last but one is being written", log.count(3), 148);
        due("the last one is queued", log.queued(0), 149);
        due("lost by a crash", log.crash(), 1);
        due("gone", log.group(149, 0), 5);
    }
}
