/**
 * The boundary cases that ../shared/DOC.md names for what would be: promises 22 to 25. What is told is compared with
 * what comes to pass on a log that is made alike. A test bears the sentence that it is about; no object has over 512
 * calls.
 */
public final class ForecastBoundariesTest {
    private static final int NO_SUCH = -1, BAD_VALUE = -2, TOO_MANY = -3, NOT_POSSIBLE = -4, NONE = -5;
    private static final int MOST = 0, FULL_SIZE = 1, FIXED = 2, LEARN = 3;
    private static final int ANSWERED = 4;

    /** Calls that bring a log to where it is asked. */
    private interface Calls {
        void on(GroupCommits log);
    }

    private static int wrong = 0;
    private static String sentence = "";

    private static void due(String what, double got, double want) {
        if (Double.compare(got, want) != 0) {
            wrong++;
            System.out.println(sentence + " | " + what + ": answered " + got + ", due is " + want);
        }
    }

    private static int[] outside(int least, int greatest) {
        return new int[] {least - 1, least - 2, least - 1000, Integer.MIN_VALUE, Integer.MIN_VALUE + least,
            greatest + 1, greatest + 2, greatest + 1000, Integer.MAX_VALUE, Integer.MAX_VALUE - 1,
            least + 256, greatest + 256, least + 65536, greatest + 65536, least - 256, greatest - 65536};
    }

    private static GroupCommits made(Calls story) {
        GroupCommits log = new GroupCommits();
        story.on(log);
        return log;
    }

    public static void main(String[] args) {
        answeredInClients();
        answeredInNone();
        whatComesToPass();
        leastTicks();
        mostTicks();
        ifSubmittedRecords();
        ifSubmittedCodes();
        ifSubmittedByTheLowest();
        ifSubmittedAtTheWait();
        ifSubmittedFull();
        ifSubmittedLast();
        idleNow();
        idleLater();
        meanOfNone();
        meanOfSome();
        System.out.println(wrong == 0 ? "all answers are as due" : wrong + " answers are not as due");
        if (wrong != 0) {
            System.exit(1);
        }
    }

    // ---- what is told comes to pass

    private static final Calls[] STORIES = {
        log -> log.submit(0, 1, false),
        log -> log.submit(11, 8, true),
        log -> {
            log.submit(0, 8, true);
            log.submit(1, 1, false);
            log.submit(2, 7, false);
        },
        log -> {
            log.set(LEARN, 0);
            log.submit(0, 3, true);
            log.submit(1, 4, true);
            log.submit(2, 5, false);
            log.tick(1);
            log.submit(3, 6, true);
            log.fail(1);
            log.submit(4, 8, false);
            log.tick(1);
            log.submit(5, 2, false);
            log.set(FIXED, 9);
        },
        log -> {
            log.set(FIXED, 1);
            log.set(FULL_SIZE, 40);
            for (int client = 0; client < 12; client++) {
                log.submit(client, 1 + client % 3, client == 5);
            }
        },
        log -> {
            log.set(MOST, 20);
            for (int round = 0; round < 9; round++) {
                log.submit(0, 1, false);
                log.submit(1, 1, true);
                log.tick(4);
            }
            log.submit(2, 1, false);
            log.submit(3, 8, false);
            log.tick(5);
            log.withdraw(2);
        },
        log -> {
            log.submit(0, 1, true);
            log.submit(1, 1, true);
            log.submit(2, 1, false);
            log.submit(3, 1, false);
        },
        log -> {
            log.set(LEARN, 0);
            log.submit(0, 1, true);
            log.submit(1, 1, false);
            log.tick(1);
            log.submit(2, 1, false);
            log.fail(0);
            log.fail(1);
        },
        log -> {
            log.set(FULL_SIZE, 1);
            log.set(FIXED, 9);
            for (int client = 11; client >= 2; client--) {
                log.submit(client, 8, false);
                log.tick(1);
            }
        },
        log -> {
            log.submit(7, 1, false);
            log.submit(8, 1, false);
            log.crash();
            log.submit(8, 4, false);
            log.submit(9, 4, false);
            log.submit(10, 4, false);
        },
    };

    private static void whatComesToPass() {
        sentence = "answeredIn, ifSubmitted, idleIn: in how many ticks, if nothing else is done";
        for (int story = 0; story < STORIES.length; story++) {
            for (int client = 0; client < 12; client++) {
                dueAnswer("story " + story + ", client " + client, STORIES[story], client);
            }
            for (int records = 1; records <= 8; records++) {
                dueIfSubmitted("story " + story, STORIES[story], records, false);
                dueIfSubmitted("story " + story + ", urgently", STORIES[story], records, true);
            }
            dueIdle("story " + story, STORIES[story]);
        }
    }

    private static void dueAnswer(String what, Calls story, int client) {
        GroupCommits log = made(story);
        int ticks = log.answeredIn(client);
        int commit = log.open(client);
        due(what + ", NONE if it is not busy", ticks == NONE ? 1 : 0, commit == NONE ? 1 : 0);
        if (commit == NONE) {
            return;
        }
        int time = log.count(0);
        for (int left = ticks; left >= 1; left--) {
            due(what + ", answered in", log.answeredIn(client), left);
            due(what + ", open yet", log.open(client), commit);
            log.tick(1);
        }
        due(what + ", its state", log.commit(commit, 3), ANSWERED);
        due(what + ", answered at", log.commit(commit, 5), time + ticks);
        due(what + ", not busy any more", log.answeredIn(client), NONE);
    }

    private static void dueIfSubmitted(String what, Calls story, int records, boolean isUrgent) {
        GroupCommits log = made(story);
        int lowest = lowestOf(log);
        int ticks = log.ifSubmitted(records, isUrgent);
        if (lowest == NONE) {
            due(what + ", all are busy", ticks, NOT_POSSIBLE);
            return;
        }
        log.submit(lowest, records, isUrgent);
        due(what + ", submitted with " + records, log.answeredIn(lowest), ticks);
        Calls submitted = other -> {
            story.on(other);
            other.ifSubmitted(records, isUrgent);
            other.submit(lowestOf(other), records, isUrgent);
        };
        dueAnswer(what + ", submitted with " + records, submitted, lowest);
    }

    private static int lowestOf(GroupCommits log) {
        for (int client = 0; client < 12; client++) {
            if (log.open(client) == NONE) {
                return client;
            }
        }
        return NONE;
    }

    private static void dueIdle(String what, Calls story) {
        GroupCommits log = made(story);
        int ticks = log.idleIn();
        for (int left = ticks; left >= 1; left--) {
            due(what + ", idle in", log.idleIn(), left);
            due(what + ", some client is busy", log.count(5) > 0 ? 1 : 0, 1);
            log.tick(1);
        }
        due(what + ", none is busy", log.count(5), 0);
        due(what + ", idle", log.idleIn(), 0);
    }

    // ---- answeredIn

    private static void answeredInClients() {
        sentence = "answeredIn: NO_SUCH if there is no such client (0 to 11)";
        GroupCommits log = new GroupCommits();
        for (int client : outside(0, 11)) {
            due("new, client " + client, log.answeredIn(client), NO_SUCH);
        }
        for (int client = 0; client < 12; client++) {
            due("client " + client, log.answeredIn(client), NONE);
            log.submit(client, 1, false);
            due("client " + client, log.answeredIn(client), 2 + 4 + (client + 1) / 4);
        }
        for (int client : outside(0, 11)) {
            due("all busy, client " + client, log.answeredIn(client), NO_SUCH);
        }
    }

    private static void answeredInNone() {
        sentence = "answeredIn: NONE if it is not busy";
        GroupCommits log = new GroupCommits();
        log.set(LEARN, 0);
        log.submit(0, 1, true);
        log.submit(1, 1, true);
        log.submit(2, 1, false);
        log.submit(3, 1, false);
        log.withdraw(3);
        due("withdrawn", log.answeredIn(3), NONE);
        log.fail(2);
        due("lost while gathering", log.answeredIn(2), NONE);
        log.fail(1);
        due("lost while queued", log.answeredIn(1), NONE);
        due("one tick too early", log.tick(3), 0);
        due("not answered yet", log.answeredIn(0), 1);
        log.tick(1);
        due("answered", log.answeredIn(0), NONE);
        log.submit(4, 1, true);
        due("behind a group whose members are lost", log.answeredIn(4), 4 + 4);
        log.crash();
        due("lost by a crash", log.answeredIn(4), NONE);
        due("never submitted", log.answeredIn(5), NONE);
    }

    private static void leastTicks() {
        sentence = "the least number of ticks is 1";
        GroupCommits log = new GroupCommits();
        log.set(FIXED, 1);
        due("if submitted", log.ifSubmitted(3, true), 1);
        due("not urgently", log.ifSubmitted(3, false), 3);
        due("four records", log.ifSubmitted(4, true), 2);
        log.submit(0, 3, true);
        due("answered in", log.answeredIn(0), 1);
        due("idle in", log.idleIn(), 1);
        log.submit(1, 1, false);
        due("the end comes with the free disk", log.answeredIn(1), 2);
        due("idle in", log.idleIn(), 2);
    }

    private static void mostTicks() {
        sentence = "the last of 150 groups";
        GroupCommits log = new GroupCommits();
        log.set(FIXED, 20);
        for (int i = 0; i < 149; i++) {
            log.submit(11, 8, true);
            log.fail(11);
        }
        due("if submitted", log.ifSubmitted(8, true), 150 * 22);
        due("if submitted, not urgently", log.ifSubmitted(1, false), 149 * 22 + 20);
        due("idle, since all are lost", log.idleIn(), 0);
        log.submit(0, 8, true);
        due("answered in", log.answeredIn(0), 150 * 22);
        due("idle in", log.idleIn(), 150 * 22);
        log.set(FIXED, 1);
        due("by the setting as it is now", log.answeredIn(0), 22 + 149 * 3);
        for (int round = 0; round < 4; round++) {
            due("not yet", log.tick(99), 0);
        }
        due("answered in", log.answeredIn(0), 22 + 149 * 3 - 396);
        due("one too few", log.tick(72), 0);
        due("the last tick", log.tick(1), 1);
    }

    // ---- ifSubmitted

    private static void ifSubmittedRecords() {
        sentence = "ifSubmitted: BAD_VALUE if records is out of range (1 to 8)";
        GroupCommits log = new GroupCommits();
        for (int records : outside(1, 8)) {
            due("records " + records, log.ifSubmitted(records, false), BAD_VALUE);
            due("urgent records " + records, log.ifSubmitted(records, true), BAD_VALUE);
        }
        for (int records = 1; records <= 8; records++) {
            due("records " + records, log.ifSubmitted(records, false), 2 + 4 + records / 4);
            due("urgent records " + records, log.ifSubmitted(records, true), 4 + records / 4);
        }
        due("nothing is submitted", log.total(0), 0);
        due("no action", log.count(10), 0);
    }

    private static void fill(GroupCommits log, int commits) {
        for (int i = 0; i < commits; i++) {
            log.submit(0, 1, false);
            log.withdraw(0);
        }
    }

    private static void twelve(GroupCommits log) {
        for (int client = 0; client < 12; client++) {
            log.submit(client, 1, false);
        }
    }

    private static void ifSubmittedCodes() {
        sentence = "ifSubmitted: BAD_VALUE, TOO_MANY, NOT_POSSIBLE are checked in this order";
        GroupCommits busy = made(ForecastBoundariesTest::twelve);
        GroupCommits full = made(log -> fill(log, 150));
        GroupCommits both = made(log -> {
            fill(log, 138);
            twelve(log);
        });
        due("150 and 12", both.total(0) + both.count(5), 162);
        for (int records : outside(1, 8)) {
            due("records before busy", busy.ifSubmitted(records, false), BAD_VALUE);
            due("records before too many", full.ifSubmitted(records, false), BAD_VALUE);
            due("records before both", both.ifSubmitted(records, true), BAD_VALUE);
        }
        for (int records = 1; records <= 8; records++) {
            due("all are busy", busy.ifSubmitted(records, false), NOT_POSSIBLE);
            due("too many", full.ifSubmitted(records, true), TOO_MANY);
            due("too many before busy", both.ifSubmitted(records, false), TOO_MANY);
        }
        busy.fail(7);
        due("eleven are busy", busy.ifSubmitted(1, true), 4 + 3);
        due("the 150th", made(log -> fill(log, 149)).ifSubmitted(1, true), 4);
    }

    private static void ifSubmittedByTheLowest() {
        sentence = "ifSubmitted: by the lowest client that is not busy";
        for (int free = 0; free < 12; free++) {
            int one = free;
            Calls story = log -> {
                log.set(FULL_SIZE, 13);
                for (int client = 0; client < 12; client++) {
                    if (client != one) {
                        log.submit(client, 1, false);
                    }
                }
            };
            due("11 records and 1", made(story).ifSubmitted(1, false), 2 + 4 + 3);
            due("11 records and 2", made(story).ifSubmitted(2, false), 4 + 3);
            dueIfSubmitted("only " + free + " is not busy", story, 1, false);
            dueIfSubmitted("only " + free + " is not busy", story, 2, false);
        }
    }

    private static void ifSubmittedAtTheWait() {
        sentence = "ifSubmitted: a new group's end is the time plus the wait, that of one that gathers stays";
        GroupCommits log = new GroupCommits();
        due("the wait 2", log.ifSubmitted(1, false), 6);
        log.submit(0, 1, true);
        log.tick(4);
        due("the wait 1", log.ifSubmitted(1, false), 5);
        log.submit(0, 1, true);
        due("the wait 0", log.count(1), 0);
        due("it closes at once and is queued", log.ifSubmitted(1, false), 8);
        log.tick(4);
        due("it closes at once and is written", log.ifSubmitted(1, false), 4);
        due("as an urgent one", log.ifSubmitted(1, true), 4);
        GroupCommits gathers = new GroupCommits();
        gathers.submit(0, 1, false);
        gathers.tick(1);
        due("one tick until the end", gathers.ifSubmitted(1, false), 1 + 4);
        gathers.submit(1, 1, true);
        gathers.submit(2, 1, false);
        due("the wait that it has learned", gathers.group(1, 4), 1 + 3);
        due("the end comes before the disk is free", gathers.ifSubmitted(1, false), 4 + 4);
        gathers.set(MOST, 0);
        due("the end stays", gathers.ifSubmitted(1, false), 4 + 4);
        GroupCommits equal = new GroupCommits();
        equal.submit(0, 1, true);
        equal.tick(3);
        due("the end comes with the free disk", equal.ifSubmitted(1, false), 1 + 4);
        equal.tick(1);
        due("the end comes after it", equal.ifSubmitted(1, false), 1 + 4);
    }

    private static void ifSubmittedFull() {
        sentence = "ifSubmitted: FULL_SIZE or more records close the group";
        for (int together = 1; together <= 8; together++) {
            GroupCommits log = new GroupCommits();
            log.set(FULL_SIZE, 8 + together);
            log.submit(3, 8, false);
            for (int records = 1; records <= 8; records++) {
                int wait = records < together ? 2 : 0;
                due("FULL_SIZE " + (8 + together) + ", 8 and " + records, log.ifSubmitted(records, false),
                    wait + 4 + (8 + records) / 4);
            }
        }
        GroupCommits least = new GroupCommits();
        least.set(FULL_SIZE, 1);
        due("FULL_SIZE 1", least.ifSubmitted(1, false), 4);
    }

    private static void ifSubmittedLast() {
        sentence = "ifSubmitted tells of a commit that joins the others, and changes none of them";
        GroupCommits log = new GroupCommits();
        log.submit(0, 3, false);
        due("alone", log.answeredIn(0), 6);
        due("one record more makes a tick more", log.ifSubmitted(1, false), 7);
        due("alone", log.answeredIn(0), 6);
        due("urgently", log.ifSubmitted(1, true), 5);
        due("alone", log.answeredIn(0), 6);
        due("it gathers yet", log.group(0, 0), 1);
        due("the wait", log.count(1), 2);
        due("one action", log.count(10), 1);
    }

    // ---- idleIn and mean

    private static void idleNow() {
        sentence = "idleIn: 0 if it is so now";
        GroupCommits log = new GroupCommits();
        due("new", log.idleIn(), 0);
        log.submit(0, 8, false);
        due("not so", log.idleIn(), 8);
        log.withdraw(0);
        due("withdrawn", log.idleIn(), 0);
        log.submit(0, 8, true);
        log.submit(1, 8, true);
        log.fail(0);
        due("one is being written, one is queued", log.idleIn(), 12);
        log.fail(1);
        due("all members are lost", log.idleIn(), 0);
        due("though a group is being written", log.count(3), 1);
        due("and another queued", log.count(4), 1);
        log.tick(50);
        due("written", log.idleIn(), 0);
        log.submit(2, 1, false);
        log.crash();
        due("a crash", log.idleIn(), 0);
    }

    private static void idleLater() {
        sentence = "idleIn tells in how many ticks no client is busy";
        GroupCommits log = new GroupCommits();
        log.set(LEARN, 0);
        int[] ticks = {6, 11, 15, 20};
        int[] records = {8, 4, 1, 6};
        for (int client = 0; client < 4; client++) {
            log.submit(11 - client, records[client], client < 3);
            due("with " + (client + 1), log.idleIn(), ticks[client]);
        }
        log.withdraw(8);
        due("the last is withdrawn", log.idleIn(), 15);
        log.fail(10);
        due("one in the midst is lost", log.idleIn(), 15);
        log.fail(9);
        due("the last is lost", log.idleIn(), 6);
        log.submit(0, 1, false);
        due("the last again", log.idleIn(), 19);
        log.fail(0);
        log.tick(5);
        due("one tick", log.idleIn(), 1);
        due("it comes to pass", log.tick(1), 1);
        due("now", log.idleIn(), 0);
    }

    private static void meanOfNone() {
        sentence = "mean: 0.0 if no commit was answered";
        GroupCommits log = new GroupCommits();
        due("new", log.mean(), 0.0);
        log.submit(0, 1, false);
        due("gathering", log.mean(), 0.0);
        log.withdraw(0);
        log.submit(0, 1, true);
        due("being written", log.mean(), 0.0);
        log.fail(0);
        log.tick(50);
        due("written, but lost", log.mean(), 0.0);
        due("one written group", log.total(5), 1);
        log.submit(0, 1, true);
        log.tick(4);
        due("answered", log.mean(), 4.0);
        log.undo();
        due("undone", log.mean(), 0.0);
    }

    private static void meanOfSome() {
        sentence = "mean: total(7), as a double, divided by total(1)";
        GroupCommits log = new GroupCommits();
        log.set(FIXED, 1);
        log.set(LEARN, 0);
        log.submit(0, 1, true);
        log.tick(1);
        due("the least", log.mean(), 1.0);
        log.submit(0, 4, true);
        log.tick(2);
        due("3 by 2", log.mean(), 1.5);
        log.submit(0, 4, true);
        log.tick(2);
        due("5 by 3", log.mean(), 5.0 / 3);
        log.submit(1, 1, true);
        log.submit(2, 1, false);
        log.withdraw(2);
        log.submit(3, 1, true);
        log.fail(3);
        log.tick(9);
        due("lost and withdrawn ones do not count", log.mean(), 6.0 / 4);
        due("the sum", log.total(7), 6);
        due("the number", log.total(1), 4);
        GroupCommits seven = new GroupCommits();
        for (int client = 0; client < 7; client++) {
            seven.submit(client, client + 1, true);
        }
        seven.tick(99);
        due("seven", seven.mean(), seven.total(7) / 7.0);
        due("their sum", seven.total(7), 4 + 8 + 12 + 17 + 22 + 27 + 32);
    }
}
