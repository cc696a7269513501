import java.util.ArrayList;
import java.util.List;
import java.util.Random;

/**
 * Runs of random calls, each answered by the program and by a model that is written from the document in another way:
 * lists instead of rows, whole copies instead of rows filled again, and what would be is found by making the ticks.
 */
public final class ModelTest {
    private static final int RUNS = 1200;
    private static final int MOST_CALLS = 512;
    // A script, with a call for each character, and some queries still fit in when so many were made.
    private static final int MOST_MADE = 370;

    private static final class Commit {
        int client, records, state = 1, submitted, answered = -5, group;
        boolean urgent;

        Commit copy() {
            Commit c = new Commit();
            c.client = client;
            c.records = records;
            c.state = state;
            c.submitted = submitted;
            c.answered = answered;
            c.group = group;
            c.urgent = urgent;
            return c;
        }
    }

    private static final class Group {
        int state = 1, end, reason, left;
        List<Integer> members = new ArrayList<>();

        Group copy() {
            Group g = new Group();
            g.state = state;
            g.end = end;
            g.reason = reason;
            g.left = left;
            g.members.addAll(members);
            return g;
        }
    }

    private static final class Model {
        List<Commit> commits = new ArrayList<>();
        List<Group> groups = new ArrayList<>();
        int time, wait = 2;
        int[] settings = {6, 16, 4, 1};
        long written, onDisk;

        Model copy() {
            Model m = new Model();
            for (Commit c : commits) {
                m.commits.add(c.copy());
            }
            for (Group g : groups) {
                m.groups.add(g.copy());
            }
            m.time = time;
            m.wait = wait;
            m.settings = settings.clone();
            m.written = written;
            m.onDisk = onDisk;
            return m;
        }

        int first(int state) {
            for (int g = 0; g < groups.size(); g++) {
                if (groups.get(g).state == state) {
                    return g;
                }
            }
            return -5;
        }

        int many(int state) {
            int n = 0;
            for (Commit c : commits) {
                n += c.state == state ? 1 : 0;
            }
            return n;
        }

        int open(int client) {
            for (int c = 0; c < commits.size(); c++) {
                if (commits.get(c).client == client && commits.get(c).state <= 3) {
                    return c;
                }
            }
            return -5;
        }

        int busy() {
            return many(1) + many(2) + many(3);
        }

        int records(int group) {
            int sum = 0;
            for (int c : groups.get(group).members) {
                sum += commits.get(c).records;
            }
            return sum;
        }

        int submit(int client, int records, boolean urgent) {
            if (client < 0 || client > 11) {
                return -1;
            }
            if (records < 1 || records > 8) {
                return -2;
            }
            if (open(client) != -5) {
                return -4;
            }
            if (commits.size() == 150) {
                return -3;
            }
            int g = first(1);
            if (g == -5) {
                Group begun = new Group();
                begun.end = time + wait;
                groups.add(begun);
                g = groups.size() - 1;
            }
            Commit c = new Commit();
            c.client = client;
            c.records = records;
            c.urgent = urgent;
            c.submitted = time;
            c.group = g;
            commits.add(c);
            groups.get(g).members.add(commits.size() - 1);
            if (urgent) {
                close(g, 1);
            } else if (records(g) >= settings[1]) {
                close(g, 2);
            } else if (groups.get(g).end <= time) {
                close(g, 3);
            }
            return commits.size() - 1;
        }

        void close(int g, int reason) {
            Group group = groups.get(g);
            group.state = 2;
            group.reason = reason;
            for (int c : group.members) {
                commits.get(c).state = 2;
            }
            if (settings[3] == 1) {
                if (group.members.size() > 1) {
                    wait = wait >= settings[0] ? settings[0] : wait + 1;
                } else if (wait > 0) {
                    wait--;
                }
            }
            start();
        }

        void start() {
            int g = first(2);
            if (first(3) != -5 || g == -5) {
                return;
            }
            groups.get(g).state = 3;
            groups.get(g).left = settings[2] + records(g) / 4;
            for (int c : groups.get(g).members) {
                if (commits.get(c).state == 2) {
                    commits.get(c).state = 3;
                }
            }
        }

        int tick() {
            time++;
            int answered = 0;
            int g = first(3);
            if (g != -5 && --groups.get(g).left == 0) {
                groups.get(g).state = 4;
                written++;
                onDisk += records(g);
                for (int c : groups.get(g).members) {
                    Commit commit = commits.get(c);
                    if (commit.state != 5) {
                        commit.state = 4;
                        commit.answered = time;
                        answered++;
                    }
                }
            }
            g = first(1);
            if (g != -5 && groups.get(g).end <= time) {
                close(g, 3);
            }
            start();
            return answered;
        }

        int ticks(int ticks) {
            if (ticks < 1 || ticks > 99) {
                return -2;
            }
            int answered = 0;
            for (int t = 0; t < ticks; t++) {
                answered += tick();
            }
            return answered;
        }

        void takeOut(int c) {
            Group group = groups.get(commits.get(c).group);
            boolean leader = group.members.get(0) == c;
            group.members.remove(Integer.valueOf(c));
            if (group.members.isEmpty()) {
                group.state = 5;
            } else if (leader) {
                group.end = time + wait;
            }
        }

        int fail(int client) {
            if (client < 0 || client > 11) {
                return -1;
            }
            int c = open(client);
            if (c == -5) {
                return -5;
            }
            if (commits.get(c).state == 1) {
                takeOut(c);
            }
            commits.get(c).state = 5;
            return c;
        }

        int withdraw(int client) {
            if (client < 0 || client > 11) {
                return -1;
            }
            int c = open(client);
            if (c == -5 || commits.get(c).state != 1) {
                return -4;
            }
            takeOut(c);
            commits.get(c).state = 6;
            return groups.get(commits.get(c).group).members.size();
        }

        int crash() {
            int lost = 0;
            for (Group group : groups) {
                if (group.state <= 3) {
                    group.state = 5;
                }
            }
            for (Commit c : commits) {
                if (c.state <= 3) {
                    c.state = 5;
                    lost++;
                }
            }
            return lost;
        }

        int set(int setting, int value) {
            int[] least = {0, 1, 1, 0};
            int[] greatest = {20, 40, 20, 1};
            if (setting < 0 || setting > 3) {
                return -1;
            }
            if (value < least[setting] || value > greatest[setting]) {
                return -2;
            }
            int before = settings[setting];
            settings[setting] = value;
            return before;
        }

        int commit(int c, int what) {
            if (c < 0 || c >= commits.size()) {
                return -1;
            }
            if (what < 0 || what > 6) {
                return -2;
            }
            Commit commit = commits.get(c);
            int[] all = {commit.client, commit.records, commit.urgent ? 1 : 0, commit.state, commit.submitted,
                commit.answered, commit.group};
            return all[what];
        }

        int group(int g, int what) {
            if (g < 0 || g >= groups.size()) {
                return -1;
            }
            if (what < 0 || what > 6) {
                return -2;
            }
            Group group = groups.get(g);
            int leader = group.state == 1 ? commits.get(group.members.get(0)).client : -5;
            int[] all = {group.state, group.members.size(), records(g), leader, group.state == 1 ? group.end : -5,
                group.reason, group.state == 3 ? group.left : -5};
            return all[what];
        }

        int member(int g, int place) {
            if (g < 0 || g >= groups.size()) {
                return -1;
            }
            if (place < 0) {
                return -2;
            }
            return place < groups.get(g).members.size() ? groups.get(g).members.get(place) : -5;
        }

        int queued(int place) {
            if (place < 0) {
                return -2;
            }
            int before = 0;
            for (int g = 0; g < groups.size(); g++) {
                if (groups.get(g).state == 2 && before++ == place) {
                    return g;
                }
            }
            return -5;
        }

        int queues() {
            int n = 0;
            while (queued(n) != -5) {
                n++;
            }
            return n;
        }

        int count(int what, int history, int length) {
            int[] all = {time, wait, first(1), first(3), queues(), busy(), settings[0], settings[1], settings[2],
                settings[3], history, length};
            return what < 0 || what > 11 ? -2 : all[what];
        }

        long total(int what) {
            long sum = 0;
            for (Commit c : commits) {
                sum += c.state == 4 ? c.answered - c.submitted : 0;
            }
            long[] all = {commits.size(), many(4), many(5), many(6), groups.size(), written, onDisk, sum};
            return what < 0 || what > 7 ? -2 : all[what];
        }

        int answeredIn(int client) {
            if (client < 0 || client > 11) {
                return -1;
            }
            int c = open(client);
            if (c == -5) {
                return -5;
            }
            Model m = copy();
            int ticks = 0;
            while (m.commits.get(c).state != 4) {
                m.tick();
                ticks++;
            }
            return ticks;
        }

        int ifSubmitted(int records, boolean urgent) {
            if (records < 1 || records > 8) {
                return -2;
            }
            if (commits.size() == 150) {
                return -3;
            }
            for (int client = 0; client < 12; client++) {
                if (open(client) == -5) {
                    Model m = copy();
                    m.submit(client, records, urgent);
                    return m.answeredIn(client);
                }
            }
            return -4;
        }

        int idleIn() {
            Model m = copy();
            int ticks = 0;
            while (m.busy() > 0) {
                m.tick();
                ticks++;
            }
            return ticks;
        }

        double mean() {
            return total(1) == 0 ? 0.0 : (double) total(7) / total(1);
        }
    }

    /** The model with its text, history and snapshot. */
    private static final class Whole {
        static final String CLIENT = "(?:[0-9]|1[01])";
        static final String ORDER = "(?:" + CLIENT + ":[1-8]!?|f" + CLIENT + "|w" + CLIENT + "|\\+[1-9][0-9]?|\\*)";
        static final String SCRIPT = ORDER + "(?:;" + ORDER + ")*";
        // What can make a script of the beginning of one; a longer one is never needed.
        static final String[] ENDS = {"", "1", ":1", "*"};

        Model now = new Model();
        Model snapshot;
        List<Model> history = new ArrayList<>();
        String text = "";

        void push() {
            history.add(now.copy());
            if (history.size() > 4) {
                history.remove(0);
            }
        }

        static boolean isBeginning(String text) {
            for (String end : ENDS) {
                if ((text + end).matches(SCRIPT)) {
                    return true;
                }
            }
            return false;
        }

        int fault() {
            for (int i = 0; i < text.length(); i++) {
                if (!isBeginning(text.substring(0, i + 1))) {
                    return i;
                }
            }
            return text.matches(SCRIPT) ? -5 : text.length();
        }

        int run() {
            if (fault() != -5) {
                return -100 - fault();
            }
            push();
            int done = 0;
            for (String order : text.split(";")) {
                if (!carryOut(order)) {
                    return done;
                }
                done++;
            }
            return done;
        }

        boolean carryOut(String order) {
            if (order.equals("*")) {
                now.crash();
                return true;
            }
            String rest = order.substring(1);
            if (order.startsWith("f")) {
                now.fail(Integer.parseInt(rest));
                return true;
            }
            if (order.startsWith("w")) {
                return now.withdraw(Integer.parseInt(rest)) >= 0;
            }
            if (order.startsWith("+")) {
                now.ticks(Integer.parseInt(rest));
                return true;
            }
            String[] parts = order.split("[:!]");
            return now.submit(Integer.parseInt(parts[0]), Integer.parseInt(parts[1]), order.endsWith("!")) >= 0;
        }
    }

    /** A call of the program. */
    private interface Call {
        double on(GroupCommits log);
    }

    private final Random random;
    private final Whole model = new Whole();
    private final StringBuilder calls = new StringBuilder();
    // All calls that can change something, by which a log is made anew when it has been asked much.
    private final List<Call> made = new ArrayList<>();
    private GroupCommits log = new GroupCommits();
    private int callsOfLog;
    private boolean hasScripts;
    private boolean isWrong;

    private ModelTest(long seed) {
        random = new Random(seed);
    }

    private void same(String call, double got, double want) {
        calls.append(call).append(" -> ").append(got).append('\n');
        if (got != want && !isWrong) {
            isWrong = true;
            System.out.println(calls + "due is " + want);
        }
    }

    private void act(String name, Call call, double want) {
        if (callsOfLog >= MOST_CALLS) {
            remake();
        }
        made.add(call);
        callsOfLog++;
        same(name, call.on(log), want);
    }

    private void ask(String name, Call call, double want) {
        if (callsOfLog >= MOST_CALLS) {
            remake();
        }
        callsOfLog++;
        same(name, call.on(log), want);
    }

    /** A log with the same past, but without the queries, since only 512 calls are promised. */
    private void remake() {
        log = new GroupCommits();
        for (Call call : made) {
            call.on(log);
        }
        callsOfLog = made.size();
    }

    private int near(int least, int greatest) {
        if (random.nextInt(60) == 0) {
            int[] odd = {Integer.MIN_VALUE, least - 1, greatest + 1, Integer.MAX_VALUE};
            return odd[random.nextInt(odd.length)];
        }
        return least + random.nextInt(greatest - least + 1);
    }

    private double refusedOrDone(double answer, Model before) {
        if (answer >= 0) {
            model.history.add(before);
            if (model.history.size() > 4) {
                model.history.remove(0);
            }
        }
        return answer;
    }

    private void action(int ticksMost, int urgentIn) {
        Model before = model.now.copy();
        int client = near(0, 11);
        switch (random.nextInt(12)) {
            case 0: case 1: case 2: case 3: case 4:
                submit(client, random.nextInt(urgentIn) == 0, before);
                break;
            case 5: {
                int want = model.now.fail(client);
                refusedOrDone(want == -5 ? 0 : want, before);
                act("fail " + client, log -> log.fail(client), want);
                break;
            }
            case 6:
                act("withdraw " + client, log -> log.withdraw(client), refusedOrDone(model.now.withdraw(client), before));
                break;
            case 7: case 8: {
                int ticks = near(1, ticksMost);
                act("tick " + ticks, log -> log.tick(ticks), refusedOrDone(model.now.ticks(ticks), before));
                break;
            }
            case 9: {
                int setting = near(0, 3);
                int value = setting == 3 ? near(0, 1) : near(setting == 0 ? 0 : 1, setting == 1 ? 40 : 20);
                act("set " + setting + " " + value, log -> log.set(setting, value),
                    refusedOrDone(model.now.set(setting, value), before));
                break;
            }
            case 10:
                // A script costs a call for each of its characters, so runs without any come to more commits.
                if (hasScripts) {
                    script();
                } else {
                    submit(client, true, before);
                }
                break;
            default:
                rare(before);
        }
    }

    private void submit(int client, boolean urgent, Model before) {
        int records = near(1, 8);
        act("submit " + client + " " + records + " " + urgent, log -> log.submit(client, records, urgent),
            refusedOrDone(model.now.submit(client, records, urgent), before));
    }

    private void rare(Model before) {
        switch (random.nextInt(6)) {
            case 0:
                act("crash", log -> log.crash(), refusedOrDone(model.now.crash(), before));
                break;
            case 1: case 2:
                if (!model.history.isEmpty()) {
                    model.now = model.history.remove(model.history.size() - 1);
                    act("undo", log -> log.undo(), model.history.size());
                } else {
                    act("undo", log -> log.undo(), -5);
                }
                break;
            case 3:
                model.snapshot = model.now.copy();
                act("save", log -> log.save(), model.now.time);
                break;
            default:
                if (model.snapshot == null) {
                    act("restore", log -> log.restore(), -4);
                } else {
                    model.push();
                    model.now = model.snapshot.copy();
                    act("restore", log -> log.restore(), model.now.time);
                }
        }
    }

    private String order() {
        int client = random.nextInt(12);
        switch (random.nextInt(7)) {
            case 0: case 1: case 2:
                return client + ":" + (1 + random.nextInt(8)) + (random.nextInt(4) == 0 ? "!" : "");
            case 3:
                return "f" + client;
            case 4:
                return "w" + client;
            case 5:
                return "+" + (1 + random.nextInt(random.nextInt(9) == 0 ? 99 : 9));
            default:
                return random.nextInt(6) == 0 ? "*" : client + ":1";
        }
    }

    private void script() {
        if (random.nextInt(3) > 0) {
            act("clearText", log -> log.clearText(), model.text.length());
            model.text = "";
        }
        StringBuilder added = new StringBuilder(order());
        for (int orders = random.nextInt(random.nextInt(8) == 0 ? 20 : 6); orders > 0; orders--) {
            added.append(';').append(order());
        }
        if (random.nextInt(3) == 0) {
            String characters = "0123456789:!fw+*;; 8a";
            int at = random.nextInt(added.length());
            added.setCharAt(at, characters.charAt(random.nextInt(characters.length())));
        }
        for (int i = 0; i < added.length(); i++) {
            int character = random.nextInt(60) == 0 ? near(32, 126) : added.charAt(i);
            int want = character < 32 || character > 126 ? -2 : model.text.length() == 80 ? -3 : model.text.length() + 1;
            if (want > 0) {
                model.text += (char) character;
            }
            act("append " + character, log -> log.append(character), want);
        }
        ask("fault of " + model.text, log -> log.fault(), model.fault());
        act("run", log -> log.run(), model.run());
    }

    private void someQueries() {
        askOpen(near(0, 11));
        askCommit(near(0, Math.max(0, model.now.commits.size() - 1)), near(0, 6));
        int group = near(0, Math.max(0, model.now.groups.size() - 1));
        askGroup(group, near(0, 6));
        askMember(group, near(0, 4));
        askQueued(near(0, 4));
        askCount(near(0, 11));
        askTotal(near(0, 7));
        askIfSubmitted(near(1, 8), random.nextBoolean());
        ask("idleIn", log -> log.idleIn(), model.now.idleIn());
    }

    private void allQueries() {
        for (int what = -1; what <= 12; what++) {
            askCount(what);
            askTotal(what);
        }
        for (int client = -1; client <= 12; client++) {
            askOpen(client);
        }
        for (int number = -1; number <= model.now.commits.size(); number++) {
            for (int what = -1; what <= 7; what++) {
                askCommit(number, what);
                askGroup(number, what);
                askMember(number, what);
            }
            askQueued(number);
        }
        for (int records = 0; records <= 9; records++) {
            askIfSubmitted(records, false);
            askIfSubmitted(records, true);
        }
        ask("mean", log -> log.mean(), model.now.mean());
    }

    private void askOpen(int client) {
        int open = client < 0 || client > 11 ? -1 : model.now.open(client);
        ask("open " + client, log -> log.open(client), open);
        ask("answeredIn " + client, log -> log.answeredIn(client), model.now.answeredIn(client));
    }

    private void askCommit(int commit, int what) {
        ask("commit " + commit + " " + what, log -> log.commit(commit, what), model.now.commit(commit, what));
    }

    private void askGroup(int group, int what) {
        ask("group " + group + " " + what, log -> log.group(group, what), model.now.group(group, what));
    }

    private void askMember(int group, int place) {
        ask("member " + group + " " + place, log -> log.member(group, place), model.now.member(group, place));
    }

    private void askQueued(int place) {
        ask("queued " + place, log -> log.queued(place), model.now.queued(place));
    }

    private void askCount(int what) {
        int want = model.now.count(what, model.history.size(), model.text.length());
        ask("count " + what, log -> log.count(what), want);
    }

    private void askTotal(int what) {
        ask("total " + what, log -> log.total(what), model.now.total(what));
    }

    private void askIfSubmitted(int records, boolean urgent) {
        ask("ifSubmitted " + records + " " + urgent, log -> log.ifSubmitted(records, urgent),
            model.now.ifSubmitted(records, urgent));
    }

    // ---- beginnings, since many commits or a long wait hardly come by chance

    private void write(String text) {
        act("clearText", log -> log.clearText(), model.text.length());
        model.text = text;
        for (int i = 0; i < text.length(); i++) {
            char character = text.charAt(i);
            act("append " + character, log -> log.append(character), i + 1);
        }
    }

    private void submitMany() {
        write("0:1;w0;".repeat(10) + "0:1;f0");
        for (int runs = 9 + random.nextInt(5); runs > 0; runs--) {
            act("run", log -> log.run(), model.run());
        }
    }

    private void learnToWait() {
        write("0:1;1:1!;+4");
        Model before = model.now.copy();
        act("set 0 20", log -> log.set(0, 20), refusedOrDone(model.now.set(0, 20), before));
        for (int runs = random.nextInt(20); runs > 0; runs--) {
            act("run", log -> log.run(), model.run());
        }
    }

    private void begin() {
        Model before = model.now.copy();
        switch (random.nextInt(5)) {
            case 0:
                submitMany();
                break;
            case 1:
                learnToWait();
                break;
            case 2:
                act("set 3 0", log -> log.set(3, 0), refusedOrDone(model.now.set(3, 0), before));
                break;
            default:
                break;
        }
    }

    /** Whether the run went as the model says. */
    private boolean go() {
        int ticksMost = random.nextBoolean() ? 5 : 1 + random.nextInt(99);
        int urgentIn = 1 + random.nextInt(8);
        hasScripts = random.nextBoolean();
        begin();
        while (made.size() < MOST_MADE && !isWrong) {
            action(ticksMost, urgentIn);
            if (random.nextInt(4) == 0) {
                someQueries();
            }
        }
        allQueries();
        return !isWrong;
    }

    public static void main(String[] args) {
        for (int run = 0; run < RUNS; run++) {
            if (!new ModelTest(run).go()) {
                System.out.println("the run with the seed " + run + " is wrong");
                System.exit(1);
            }
        }
        System.out.println(RUNS + " runs went as the model says");
    }
}
