import java.util.ArrayList;
import java.util.LinkedHashMap;
import java.util.List;
import java.util.Map;

/**
 * What the state consists of, when it is recorded and restored (promises 12 to 14, 'Actions and history'), and that a
 * refused call or a query changes nothing ('Errors'). All that can be seen of a log is asked for, of logs that are made
 * anew by the same calls, so that no object has over 512 calls.
 */
public final class StatesTest {
    private static final int NO_SUCH = -1, BAD_VALUE = -2, TOO_MANY = -3, NOT_POSSIBLE = -4, NONE = -5;
    private static final int MOST = 0, FULL_SIZE = 1, FIXED = 2, LEARN = 3;
    private static final int QUERIES_A_LOG = 80;

    /** Calls that bring a log to where it is looked at. */
    private interface Calls {
        void on(GroupCommits log);
    }

    private interface Call {
        double on(GroupCommits log);
    }

    private static int wrong = 0;
    private static String sentence = "";

    private static void due(String what, double got, double want) {
        if (Double.compare(got, want) != 0) {
            wrong++;
            System.out.println(sentence + " | " + what + ": answered " + got + ", due is " + want);
        }
    }

    private static void dueSame(String what, List<String> got, List<String> want) {
        if (got.equals(want)) {
            return;
        }
        wrong++;
        System.out.println(sentence + " | " + what + ": is not the same");
        for (int i = 0; i < Math.min(got.size(), want.size()); i++) {
            if (!got.get(i).equals(want.get(i))) {
                System.out.println("  " + got.get(i) + ", due is " + want.get(i));
                return;
            }
        }
    }

    private static int[] outside(int least, int greatest) {
        return new int[] {least - 1, Integer.MIN_VALUE, greatest + 1, Integer.MAX_VALUE, least + 256, greatest + 65536};
    }

    private static void write(GroupCommits log, String text) {
        log.clearText();
        for (int i = 0; i < text.length(); i++) {
            log.append(text.charAt(i));
        }
    }

    // ---- all that can be seen

    private static final class Look {
        private final Calls before;
        private final List<String> seen = new ArrayList<>();
        private GroupCommits log;
        private int left = 0;

        Look(Calls before) {
            this.before = before;
        }

        int ask(String what, Call query) {
            if (left == 0) {
                log = new GroupCommits();
                before.on(log);
                left = QUERIES_A_LOG;
            }
            left--;
            double answer = query.on(log);
            seen.add(what + " is " + answer);
            return (int) answer;
        }
    }

    private static void lookAtCommitsAndGroups(Look look) {
        int commits = look.ask("total 0", log -> log.total(0));
        int groups = look.ask("total 4", log -> log.total(4));
        for (int number = 0; number <= Math.max(commits, groups); number++) {
            int one = number;
            for (int what = 0; what < 7; what++) {
                int about = what;
                look.ask("commit " + one + " " + what, log -> log.commit(one, about));
                look.ask("group " + one + " " + what, log -> log.group(one, about));
            }
            int members = look.ask("members of " + one, log -> log.group(one, 1));
            for (int place = 0; place <= Math.max(members, 0); place++) {
                int at = place;
                look.ask("member " + one + " " + place, log -> log.member(one, at));
            }
        }
    }

    private static void lookAtState(Look look) {
        lookAtCommitsAndGroups(look);
        for (int what = 0; what < 10; what++) {
            int about = what;
            look.ask("count " + what, log -> log.count(about));
            look.ask("total " + what, log -> log.total(about));
        }
        for (int number = 0; number < 12; number++) {
            int one = number;
            look.ask("open " + number, log -> log.open(one));
            look.ask("answeredIn " + number, log -> log.answeredIn(one));
            look.ask("ifSubmitted " + number, log -> log.ifSubmitted(one, false));
            look.ask("ifSubmitted urgently " + number, log -> log.ifSubmitted(one, true));
        }
        int queued = look.ask("count 4", log -> log.count(4));
        for (int place = 0; place <= queued; place++) {
            int at = place;
            look.ask("queued " + place, log -> log.queued(at));
        }
        look.ask("idleIn", log -> log.idleIn());
        look.ask("mean", log -> log.mean());
    }

    /** The state, without the text, the history and the snapshot. */
    private static List<String> state(Calls story) {
        Look look = new Look(story);
        lookAtState(look);
        return look.seen;
    }

    private static void lookAtText(Look look) {
        look.ask("count 11", log -> log.count(11));
        look.ask("fault", log -> log.fault());
        look.ask("append", log -> log.append('*'));
        look.ask("fault then", log -> log.fault());
        look.ask("run", log -> log.run());
    }

    private static Calls undone(Calls story, int times) {
        return log -> {
            story.on(log);
            for (int i = 0; i < times; i++) {
                log.undo();
            }
        };
    }

    private static Calls restored(Calls story) {
        return log -> {
            story.on(log);
            log.restore();
        };
    }

    private static List<String> history(Calls story, int states) {
        Look look = new Look(story);
        look.ask("count 10", log -> log.count(10));
        List<String> seen = look.seen;
        for (int times = 1; times <= states; times++) {
            seen.addAll(state(undone(story, times)));
        }
        return seen;
    }

    private static List<String> snapshot(Calls story) {
        Look look = new Look(story);
        look.ask("restore", log -> log.restore());
        List<String> seen = look.seen;
        seen.addAll(state(restored(story)));
        return seen;
    }

    /** The state, the text, the history and the snapshot. */
    private static List<String> all(Calls story) {
        List<String> seen = state(story);
        Look text = new Look(story);
        lookAtText(text);
        seen.addAll(text.seen);
        seen.addAll(history(story, 5));
        seen.addAll(snapshot(story));
        return seen;
    }

    // ---- logs to look at

    private static void nothing(GroupCommits log) {
        due("it is new", log.count(10), 0);
    }

    private static void gathering(GroupCommits log) {
        log.submit(4, 3, false);
        log.append('f');
    }

    /** Commits and groups of all kinds, all settings changed, a full history, a snapshot of another state, a text. */
    private static void allKinds(GroupCommits log) {
        log.set(LEARN, 0);
        log.submit(9, 2, false);
        log.tick(1);
        log.save();
        log.set(MOST, 9);
        log.submit(0, 5, false);
        log.submit(1, 3, false);
        log.withdraw(1);
        log.submit(2, 2, true);
        log.submit(3, 7, true);
        log.submit(4, 6, true);
        log.submit(5, 4, false);
        log.submit(8, 4, true);
        log.fail(5);
        log.submit(10, 1, false);
        log.withdraw(10);
        log.tick(6);
        log.set(FULL_SIZE, 20);
        log.submit(6, 1, false);
        log.set(FIXED, 6);
        log.submit(7, 8, false);
        write(log, "11:8!;f6");
    }

    private static void twelveBusy(GroupCommits log) {
        log.save();
        for (int client = 0; client < 12; client++) {
            log.submit(client, 1 + client % 8, client % 5 == 4);
        }
        write(log, "+9;w");
    }

    /** 150 commits, after which three clients are busy: gathering, queued, being written. */
    private static void mostCommits(GroupCommits log) {
        log.set(LEARN, 0);
        for (int i = 0; i < 147; i++) {
            log.submit(i % 12, 1, false);
            log.withdraw(i % 12);
        }
        log.submit(3, 4, true);
        log.submit(4, 4, true);
        log.submit(5, 4, false);
    }

    private static void mostCommitsAndClients(GroupCommits log) {
        for (int i = 0; i < 138; i++) {
            log.submit(0, 1, false);
            log.withdraw(0);
        }
        for (int client = 0; client < 12; client++) {
            log.submit(client, 2, client % 4 == 3);
        }
    }

    private static void longText(GroupCommits log) {
        log.submit(0, 8, true);
        write(log, "+99;".repeat(19) + "10:1");
    }

    private static void undoneOnes(GroupCommits log) {
        allKinds(log);
        log.undo();
        log.undo();
        log.undo();
    }

    private static final Map<String, Calls> LOGS = new LinkedHashMap<>();

    private static void makeLogs() {
        LOGS.put("new", StatesTest::nothing);
        LOGS.put("gathering", StatesTest::gathering);
        LOGS.put("all kinds", StatesTest::allKinds);
        LOGS.put("twelve busy", StatesTest::twelveBusy);
        LOGS.put("long text", StatesTest::longText);
        LOGS.put("undone", StatesTest::undoneOnes);
    }

    public static void main(String[] args) {
        makeLogs();
        errorsOfRanges();
        errorsOfStates();
        codesInTheirOrder();
        queriesChangeNothing();
        eachActionIsRecorded();
        noActions();
        atMostFourStates();
        undoAfterTheFifth();
        undoOfNothing();
        snapshotAlone();
        restoreAndItsUndo();
        snapshotInItsOrder();
        rowsFilledAgain();
        System.out.println(wrong == 0 ? "all answers are as due" : wrong + " answers are not as due");
        if (wrong != 0) {
            System.exit(1);
        }
    }

    // ---- refused calls

    private static final class Refused {
        final String name;
        final Call call;
        final int code;

        Refused(String name, Call call, int code) {
            this.name = name;
            this.call = call;
            this.code = code;
        }
    }

    private static void clientsOutside(List<Refused> calls) {
        for (int client : outside(0, 11)) {
            calls.add(new Refused("submit " + client, log -> log.submit(client, 1, true), NO_SUCH));
            calls.add(new Refused("fail " + client, log -> log.fail(client), NO_SUCH));
            calls.add(new Refused("withdraw " + client, log -> log.withdraw(client), NO_SUCH));
            calls.add(new Refused("open " + client, log -> log.open(client), NO_SUCH));
            calls.add(new Refused("answeredIn " + client, log -> log.answeredIn(client), NO_SUCH));
        }
    }

    private static void valuesOutside(List<Refused> calls) {
        for (int records : outside(1, 8)) {
            calls.add(new Refused("submit, records " + records, log -> log.submit(11, records, true), BAD_VALUE));
            calls.add(new Refused("ifSubmitted " + records, log -> log.ifSubmitted(records, true), BAD_VALUE));
        }
        for (int ticks : outside(1, 99)) {
            calls.add(new Refused("tick " + ticks, log -> log.tick(ticks), BAD_VALUE));
        }
        for (int character : outside(32, 126)) {
            calls.add(new Refused("append " + character, log -> log.append(character), BAD_VALUE));
        }
        for (int what : outside(0, 11)) {
            calls.add(new Refused("count " + what, log -> log.count(what), BAD_VALUE));
        }
        for (int what : outside(0, 7)) {
            calls.add(new Refused("total " + what, log -> log.total(what), BAD_VALUE));
        }
        calls.add(new Refused("queued -1", log -> log.queued(-1), BAD_VALUE));
        calls.add(new Refused("queued least", log -> log.queued(Integer.MIN_VALUE), BAD_VALUE));
    }

    private static void settingsOutside(List<Refused> calls) {
        int[] greatest = {20, 40, 20, 1};
        int[] least = {0, 1, 1, 0};
        for (int setting : outside(MOST, LEARN)) {
            calls.add(new Refused("set " + setting, log -> log.set(setting, 1), NO_SUCH));
        }
        for (int setting = MOST; setting <= LEARN; setting++) {
            int one = setting;
            for (int value : outside(least[setting], greatest[setting])) {
                calls.add(new Refused("set " + one + " " + value, log -> log.set(one, value), BAD_VALUE));
            }
        }
    }

    private static void numbersOutside(List<Refused> calls) {
        for (int number : outside(0, 149)) {
            calls.add(new Refused("commit " + number, log -> log.commit(number, 0), NO_SUCH));
            calls.add(new Refused("group " + number, log -> log.group(number, 0), NO_SUCH));
            calls.add(new Refused("member " + number, log -> log.member(number, 0), NO_SUCH));
        }
    }

    private static void errorsOfRanges() {
        sentence = "a method that returns an error code changes nothing";
        List<Refused> calls = new ArrayList<>();
        clientsOutside(calls);
        valuesOutside(calls);
        settingsOutside(calls);
        numbersOutside(calls);
        for (String name : LOGS.keySet()) {
            Calls story = LOGS.get(name);
            List<String> before = all(story);
            for (Refused one : calls) {
                dueRefused(name, story, before, one);
            }
        }
    }

    private static void dueRefused(String name, Calls story, List<String> before, Refused one) {
        GroupCommits log = new GroupCommits();
        story.on(log);
        due(name + ", " + one.name, one.call.on(log), one.code);
        dueSame(name + " after " + one.name, all(then(story, one.call)), before);
    }

    private static Calls then(Calls story, Call call) {
        return log -> {
            story.on(log);
            call.on(log);
        };
    }

    private static void dueAllRefused(String name, Calls story, List<Refused> calls) {
        List<String> before = all(story);
        for (Refused one : calls) {
            dueRefused(name, story, before, one);
        }
    }

    private static void errorsOfStates() {
        sentence = "a method that returns an error code because of the state changes nothing";
        dueAllRefused("new", StatesTest::nothing, List.of(
            new Refused("withdraw", log -> log.withdraw(0), NOT_POSSIBLE),
            new Refused("restore", log -> log.restore(), NOT_POSSIBLE),
            new Refused("run of the empty text", log -> log.run(), -100),
            new Refused("commit 0", log -> log.commit(0, 0), NO_SUCH),
            new Refused("group 0", log -> log.group(0, 0), NO_SUCH),
            new Refused("member 0", log -> log.member(0, 0), NO_SUCH)));
        dueAllRefused("gathering", StatesTest::gathering, List.of(
            new Refused("submit again", log -> log.submit(4, 1, true), NOT_POSSIBLE),
            new Refused("withdraw another", log -> log.withdraw(5), NOT_POSSIBLE),
            new Refused("restore", log -> log.restore(), NOT_POSSIBLE),
            new Refused("run of an unfinished text", log -> log.run(), -101)));
        dueAllRefused("all kinds", StatesTest::allKinds, List.of(
            new Refused("submit while queued", log -> log.submit(4, 1, false), NOT_POSSIBLE),
            new Refused("submit while being written", log -> log.submit(3, 1, true), NOT_POSSIBLE),
            new Refused("submit while gathering", log -> log.submit(6, 8, true), NOT_POSSIBLE),
            new Refused("withdraw an answered one", log -> log.withdraw(0), NOT_POSSIBLE),
            new Refused("withdraw a withdrawn one", log -> log.withdraw(1), NOT_POSSIBLE),
            new Refused("withdraw one being written", log -> log.withdraw(3), NOT_POSSIBLE),
            new Refused("withdraw a queued one", log -> log.withdraw(4), NOT_POSSIBLE),
            new Refused("withdraw a lost one", log -> log.withdraw(5), NOT_POSSIBLE)));
        dueAllRefused("twelve busy", StatesTest::twelveBusy, List.of(
            new Refused("submit", log -> log.submit(0, 1, true), NOT_POSSIBLE),
            new Refused("ifSubmitted", log -> log.ifSubmitted(1, true), NOT_POSSIBLE),
            new Refused("run of an unfinished text", log -> log.run(), -104)));
        dueAllRefused("long text", StatesTest::longText, List.of(
            new Refused("append", log -> log.append('!'), TOO_MANY),
            new Refused("append 31", log -> log.append(31), BAD_VALUE)));
        dueAllRefused("most commits", StatesTest::mostCommits, List.of(
            new Refused("submit", log -> log.submit(0, 1, true), TOO_MANY),
            new Refused("submit again", log -> log.submit(5, 1, false), NOT_POSSIBLE),
            new Refused("ifSubmitted", log -> log.ifSubmitted(8, false), TOO_MANY),
            new Refused("commit 150", log -> log.commit(150, 0), NO_SUCH),
            new Refused("group 150", log -> log.group(150, 0), NO_SUCH)));
    }

    private static void dueCode(String what, Calls story, Call call, int code) {
        GroupCommits log = new GroupCommits();
        story.on(log);
        due(what, call.on(log), code);
    }

    private static void codesInTheirOrder() {
        sentence = "the error codes are checked in the order in which they are listed";
        for (int client : outside(0, 11)) {
            for (int records : outside(1, 8)) {
                for (Calls story : LOGS.values()) {
                    dueCode("submit", story, log -> log.submit(client, records, false), NO_SUCH);
                }
                dueCode("submit, full", StatesTest::mostCommits, log -> log.submit(client, records, true), NO_SUCH);
            }
            dueCode("submit, full", StatesTest::mostCommitsAndClients, log -> log.submit(client, 1, true), NO_SUCH);
        }
        for (int records : outside(1, 8)) {
            dueCode("submit, busy", StatesTest::twelveBusy, log -> log.submit(0, records, true), BAD_VALUE);
            dueCode("submit, full", StatesTest::mostCommits, log -> log.submit(0, records, true), BAD_VALUE);
            dueCode("submit, both", StatesTest::mostCommitsAndClients, log -> log.submit(0, records, true), BAD_VALUE);
            dueCode("ifSubmitted, busy", StatesTest::twelveBusy, log -> log.ifSubmitted(records, true), BAD_VALUE);
            dueCode("ifSubmitted, full", StatesTest::mostCommits, log -> log.ifSubmitted(records, true), BAD_VALUE);
            dueCode("ifSubmitted, both", StatesTest::mostCommitsAndClients, log -> log.ifSubmitted(records, true), BAD_VALUE);
        }
        for (int client = 0; client < 12; client++) {
            int one = client;
            dueCode("submit, busy, full", StatesTest::mostCommitsAndClients, log -> log.submit(one, 1, true), NOT_POSSIBLE);
            dueCode("submit, full", StatesTest::mostCommits, log -> log.submit(one, 1, true),
                one >= 3 && one <= 5 ? NOT_POSSIBLE : TOO_MANY);
        }
        dueCode("ifSubmitted, full, busy", StatesTest::mostCommitsAndClients, log -> log.ifSubmitted(1, false), TOO_MANY);
        dueCode("ifSubmitted, full", StatesTest::mostCommits, log -> log.ifSubmitted(1, false), TOO_MANY);
        dueCode("ifSubmitted, busy", StatesTest::twelveBusy, log -> log.ifSubmitted(1, false), NOT_POSSIBLE);
        for (int setting : outside(MOST, LEARN)) {
            for (int value : outside(0, 40)) {
                dueCode("set", StatesTest::nothing, log -> log.set(setting, value), NO_SUCH);
            }
        }
        for (int what : outside(0, 6)) {
            for (int number : outside(0, 149)) {
                dueCode("commit", StatesTest::mostCommits, log -> log.commit(number, what), NO_SUCH);
                dueCode("group", StatesTest::mostCommits, log -> log.group(number, what), NO_SUCH);
            }
            dueCode("commit of none", StatesTest::nothing, log -> log.commit(0, what), NO_SUCH);
            dueCode("group of none", StatesTest::nothing, log -> log.group(0, what), NO_SUCH);
            dueCode("commit that there is", StatesTest::gathering, log -> log.commit(0, what), BAD_VALUE);
            dueCode("group that there is", StatesTest::gathering, log -> log.group(0, what), BAD_VALUE);
        }
        for (int place : new int[] {-1, -2, Integer.MIN_VALUE}) {
            dueCode("member of none", StatesTest::nothing, log -> log.member(0, place), NO_SUCH);
            dueCode("member of no second", StatesTest::gathering, log -> log.member(1, place), NO_SUCH);
            dueCode("member of -1", StatesTest::gathering, log -> log.member(-1, place), NO_SUCH);
            dueCode("member of one", StatesTest::gathering, log -> log.member(0, place), BAD_VALUE);
        }
        for (int character : outside(32, 126)) {
            dueCode("append, full", StatesTest::longText, log -> log.append(character), BAD_VALUE);
        }
    }

    private static void queriesChangeNothing() {
        sentence = "queries change nothing; what would be changes nothing";
        List<Refused> queries = new ArrayList<>();
        for (int number = 0; number < 12; number++) {
            int one = number;
            queries.add(new Refused("commit " + one, log -> log.commit(one, one % 7), 0));
            queries.add(new Refused("group " + one, log -> log.group(one, one % 7), 0));
            queries.add(new Refused("member " + one, log -> log.member(one % 6, one / 6), 0));
            queries.add(new Refused("open " + one, log -> log.open(one), 0));
            queries.add(new Refused("queued " + one, log -> log.queued(one), 0));
            queries.add(new Refused("count " + one, log -> log.count(one), 0));
            queries.add(new Refused("total " + one, log -> log.total(one), 0));
            queries.add(new Refused("answeredIn " + one, log -> log.answeredIn(one), 0));
            queries.add(new Refused("ifSubmitted " + one, log -> log.ifSubmitted(one, false), 0));
            queries.add(new Refused("ifSubmitted urgently " + one, log -> log.ifSubmitted(one, true), 0));
        }
        queries.add(new Refused("queued far", log -> log.queued(Integer.MAX_VALUE), NONE));
        queries.add(new Refused("idleIn", log -> log.idleIn(), 0));
        queries.add(new Refused("mean", log -> log.mean(), 0));
        queries.add(new Refused("fault", log -> log.fault(), 0));
        for (String name : LOGS.keySet()) {
            Calls story = LOGS.get(name);
            List<String> before = all(story);
            for (Refused one : queries) {
                dueSame(name + " after " + one.name, all(then(story, one.call)), before);
            }
        }
    }

    // ---- actions and the history

    private static Map<String, Call> actions() {
        Map<String, Call> actions = new LinkedHashMap<>();
        for (int client = 0; client < 12; client++) {
            int one = client;
            actions.put("submit " + client, log -> log.submit(one, 3, false));
            actions.put("submit urgently " + client, log -> log.submit(one, 8, true));
            actions.put("fail " + client, log -> log.fail(one));
            actions.put("withdraw " + client, log -> log.withdraw(one));
        }
        actions.put("crash", log -> log.crash());
        actions.put("tick 1", log -> log.tick(1));
        actions.put("tick 99", log -> log.tick(99));
        for (int setting = MOST; setting <= LEARN; setting++) {
            int one = setting;
            actions.put("set " + setting + " to 1", log -> log.set(one, 1));
            actions.put("set " + setting + " to what it is", log -> log.set(one, log.count(6 + one)));
        }
        actions.put("run", log -> log.run());
        actions.put("restore", log -> log.restore());
        return actions;
    }

    private static void eachActionIsRecorded() {
        sentence = "each action that returns no error code records the state before it, even if it changes nothing";
        Map<String, Call> actions = actions();
        for (String name : LOGS.keySet()) {
            Calls story = LOGS.get(name);
            List<String> state = state(story);
            List<String> snapshot = snapshot(story);
            GroupCommits first = new GroupCommits();
            story.on(first);
            int states = first.count(10);
            for (String action : actions.keySet()) {
                GroupCommits log = new GroupCommits();
                story.on(log);
                double answer = actions.get(action).on(log);
                boolean isRecorded = answer >= 0 || action.startsWith("fail") && answer == NONE;
                String what = name + ", " + action + " -> " + answer;
                due(what + ", history", log.count(10), isRecorded ? Math.min(states + 1, 4) : states);
                if (isRecorded) {
                    Calls undone = undone(then(story, actions.get(action)), 1);
                    dueSame(what + ", state", state(undone), state);
                    dueSame(what + ", snapshot", snapshot(undone), snapshot);
                    dueOlderStates(what, story, undone, states);
                }
            }
        }
    }

    private static void dueOlderStates(String what, Calls story, Calls undone, int states) {
        int left = Math.min(states, 3);
        GroupCommits log = new GroupCommits();
        undone.on(log);
        due(what + ", states that are left", log.count(10), left);
        for (int times = 1; times <= left; times++) {
            dueSame(what + ", older state " + times, state(undone(undone, times)), state(undone(story, times)));
        }
    }

    private static void noActions() {
        sentence = "save, undo and what concerns the text are no actions";
        GroupCommits log = new GroupCommits();
        log.save();
        log.append('*');
        log.fault();
        log.clearText();
        due("the history is empty", log.count(10), 0);
        due("undo of nothing", log.undo(), NONE);
        log.tick(1);
        log.tick(2);
        log.save();
        due("two ticks", log.count(10), 2);
        due("undo", log.undo(), 1);
        due("is not recorded", log.count(10), 1);
        due("undo of the first tick, not of the undo", log.undo(), 0);
        due("the time", log.count(0), 0);
        due("nothing is left", log.undo(), NONE);
        due("the time", log.count(0), 0);
    }

    private static void atMostFourStates() {
        sentence = "the history holds at most 4 states; when a fifth is recorded, the oldest one is dropped";
        for (int actions = 0; actions <= 13; actions++) {
            GroupCommits log = new GroupCommits();
            for (int i = 0; i < actions; i++) {
                due("history", log.count(10), Math.min(i, 4));
                log.tick(1);
            }
            int states = Math.min(actions, 4);
            due("history", log.count(10), states);
            for (int undone = 1; undone <= states; undone++) {
                due(actions + " actions, undo " + undone, log.undo(), states - undone);
                due("history", log.count(10), states - undone);
                due("the time", log.count(0), actions - undone);
            }
            due("no more", log.undo(), NONE);
            due("the time stays", log.count(0), actions - states);
            due("history", log.count(10), 0);
        }
    }

    private static void undoAfterTheFifth() {
        sentence = "undo restores the latest state of the history and removes it";
        GroupCommits log = new GroupCommits();
        int[] actions = {6, 2, 1, 5, 3, 1, 7};
        int[] undos = {2, 3, 1, 4, 1, 2, 5};
        List<Integer> states = new ArrayList<>();
        int time = 0;
        for (int round = 0; round < actions.length; round++) {
            for (int i = 0; i < actions[round]; i++) {
                states.add(time);
                if (states.size() > 4) {
                    states.remove(0);
                }
                time += 1 + round;
                log.tick(1 + round);
            }
            for (int i = 0; i < undos[round]; i++) {
                int left = states.size() - 1;
                due("round " + round + ", undo", log.undo(), left < 0 ? NONE : left);
                time = left < 0 ? time : states.remove(left);
                due("round " + round + ", the time", log.count(0), time);
            }
        }
    }

    private static void undoOfNothing() {
        sentence = "undo: NONE if the history is empty, and nothing changes";
        Calls empty = log -> {
            allKinds(log);
            for (int i = 0; i < 4; i++) {
                log.undo();
            }
        };
        GroupCommits log = new GroupCommits();
        empty.on(log);
        due("history", log.count(10), 0);
        due("undo", log.undo(), NONE);
        due("again", log.undo(), NONE);
        dueSame("all", all(then(empty, one -> one.undo())), all(empty));
        due("an action then", log.tick(1), 0);
        due("its undo", log.undo(), 0);
    }

    // ---- the snapshot

    private static void snapshotAlone() {
        sentence = "save replaces the previous snapshot, returns the time, is not an action";
        for (String name : LOGS.keySet()) {
            Calls story = LOGS.get(name);
            Calls saved = then(story, log -> log.save());
            GroupCommits log = new GroupCommits();
            story.on(log);
            int time = log.count(0);
            int states = log.count(10);
            due(name + ", save", log.save(), time);
            due(name + ", history", log.count(10), states);
            due(name + ", restore", log.restore(), time);
            due(name + ", history", log.count(10), Math.min(states + 1, 4));
            dueSame(name + ", state", state(saved), state(story));
            dueSame(name + ", history", history(saved, 5), history(story, 5));
            dueSame(name + ", restored", state(restored(saved)), state(story));
            Calls other = one -> {
                saved.on(one);
                one.crash();
                one.set(MOST, 17);
                one.tick(77);
                one.submit(0, 1, true);
                one.undo();
                one.undo();
            };
            dueSame(name + ", restored after others", state(restored(other)), state(story));
            dueSame(name + ", restored twice", state(restored(then(restored(other), one -> one.tick(5)))), state(story));
            dueSame(name + ", the undo of restoring", state(undone(restored(other), 1)), state(other));
        }
    }

    private static void restoreAndItsUndo() {
        sentence = "restore: NOT_POSSIBLE if there is no snapshot; the snapshot remains, and is no part of the state";
        GroupCommits log = new GroupCommits();
        due("none", log.restore(), NOT_POSSIBLE);
        log.tick(1);
        due("none", log.restore(), NOT_POSSIBLE);
        due("one action, the tick", log.count(10), 1);
        due("save", log.save(), 1);
        log.undo();
        due("undo before the saving leaves the snapshot", log.restore(), 1);
        due("an action", log.count(10), 1);
        due("restoring the same", log.restore(), 1);
        due("an action too", log.count(10), 2);
        due("undo", log.undo(), 1);
        due("undo", log.undo(), 0);
        due("the time", log.count(0), 0);
        due("at the time 0", log.save(), 0);
        log.tick(99);
        due("which is no error code", log.restore(), 0);
        for (int round = 0; round < 4; round++) {
            due("restored again", log.restore(), 0);
        }
        due("history", log.count(10), 4);
        due("undo", log.undo(), 3);
        due("the time", log.count(0), 0);
    }

    private static void snapshotInItsOrder() {
        sentence = "the state consists of the time, commits and groups, the wait, the settings and the totals";
        GroupCommits log = new GroupCommits();
        log.submit(0, 1, false);
        log.submit(1, 1, true);
        log.set(MOST, 1);
        log.set(FULL_SIZE, 2);
        log.set(FIXED, 3);
        log.set(LEARN, 0);
        log.tick(4);
        log.save();
        log.set(MOST, 11);
        log.set(FULL_SIZE, 12);
        log.set(FIXED, 13);
        log.set(LEARN, 1);
        log.submit(2, 1, true);
        log.tick(50);
        due("restored", log.restore(), 4);
        int[] counts = {4, 3, NONE, NONE, 0, 0, 1, 2, 3, 0, 4, 0};
        for (int what = 0; what < counts.length; what++) {
            due("count " + what, log.count(what), counts[what]);
        }
        int[] totals = {2, 2, 0, 0, 1, 1, 2, 8};
        for (int what = 0; what < totals.length; what++) {
            due("total " + what, log.total(what), totals[what]);
        }
        due("mean", log.mean(), 4.0);
        due("a commit that is not any more", log.commit(2, 0), NO_SUCH);
        due("a group that is not any more", log.group(1, 0), NO_SUCH);
        log.undo();
        due("undone", log.count(9), 1);
        due("the commit is again", log.commit(2, 3), 4);
    }

    /** The numbers of what was undone are given again, and all that belonged to them is new. */
    private static void rowsFilledAgain() {
        sentence = "a restored state is whole, also if the present one has other groups and commits at the same numbers";
        Calls first = log -> {
            log.set(LEARN, 0);
            log.submit(0, 8, true);
            log.save();
            log.submit(1, 7, true);
            log.submit(2, 6, false);
            log.submit(3, 5, true);
        };
        Calls other = log -> {
            log.tick(1);
            log.submit(4, 1, false);
            log.withdraw(4);
            log.submit(5, 2, false);
            log.fail(5);
            log.tick(5);
            log.submit(6, 3, true);
            log.submit(7, 4, true);
            log.tick(4);
        };
        Calls restoredFirst = log -> {
            first.on(log);
            log.restore();
            other.on(log);
            log.save();
            log.restore();
            log.undo();
        };
        Calls expected = log -> {
            log.set(LEARN, 0);
            log.submit(0, 8, true);
            other.on(log);
        };
        dueSame("other commits", state(restoredFirst), state(expected));
        Calls back = log -> {
            log.set(LEARN, 0);
            log.submit(0, 8, true);
            other.on(log);
            log.save();
            for (int i = 0; i < 4; i++) {
                log.undo();
            }
            log.tick(3);
            log.submit(1, 7, true);
            log.submit(2, 6, false);
            log.submit(3, 5, true);
            log.restore();
        };
        dueSame("back to the others", state(back), state(expected));
        Calls queue = log -> {
            log.set(LEARN, 0);
            log.submit(0, 1, true);
            log.submit(1, 1, true);
            log.submit(2, 1, true);
            log.save();
            log.undo();
            log.undo();
            log.submit(3, 1, false);
            log.withdraw(3);
            log.submit(4, 1, true);
            log.submit(5, 1, true);
            log.restore();
        };
        Calls likeQueue = log -> {
            log.set(LEARN, 0);
            log.submit(0, 1, true);
            log.submit(1, 1, true);
            log.submit(2, 1, true);
        };
        dueSame("the queue", state(queue), state(likeQueue));
        dueSame("the queue's undo", state(undone(queue, 1)), state(log -> {
            log.set(LEARN, 0);
            log.submit(0, 1, true);
            log.submit(3, 1, false);
            log.withdraw(3);
            log.submit(4, 1, true);
            log.submit(5, 1, true);
        }));
        dueSame("what becomes of it", state(then(queue, log -> log.tick(9))), state(then(likeQueue, log -> log.tick(9))));
    }
}
