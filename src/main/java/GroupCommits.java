/** A log of commits that are written to the disk in groups; ../shared/DOC.md says what each call answers. */
public final class GroupCommits {
    public static final int NO_SUCH = -1;
    public static final int BAD_VALUE = -2;
    public static final int TOO_MANY = -3;
    public static final int NOT_POSSIBLE = -4;
    public static final int NONE = -5;
    public static final int MOST = 0, FULL_SIZE = 1, FIXED = 2, LEARN = 3;

    // What a check answers when it finds nothing against a call; no error code is 0.
    private static final int ACCEPTED = 0;
    private static final int MOST_TICKS = 99;
    private static final int UNFIT_SCRIPT = -100;

    private final Log now = new Log();
    private final Log snapshot = new Log();
    private final History history = new History();
    private final Script script = new Script();
    private boolean hasSnapshot;

    public GroupCommits() {
    }

    // ---- clients

    public int submit(int client, int records, boolean isUrgent) {
        int refusal = now.refusalToEnter(client, records);
        if (refusal != ACCEPTED) {
            return refusal;
        }
        history.push(now);
        return now.enter(client, records, isUrgent);
    }

    public int fail(int client) {
        if (!Log.isClient(client)) {
            return NO_SUCH;
        }
        history.push(now);
        return now.loseClient(client);
    }

    public int withdraw(int client) {
        int refusal = now.refusalToTakeBack(client);
        if (refusal != ACCEPTED) {
            return refusal;
        }
        history.push(now);
        return now.takeBack(client);
    }

    // ---- the system

    public int crash() {
        history.push(now);
        return now.loseAll();
    }

    public int tick(int ticks) {
        if (ticks < 1 || ticks > MOST_TICKS) {
            return BAD_VALUE;
        }
        history.push(now);
        return now.passTicks(ticks);
    }

    public int set(int setting, int value) {
        int refusal = Settings.refusal(setting, value);
        if (refusal != ACCEPTED) {
            return refusal;
        }
        history.push(now);
        return now.change(setting, value);
    }

    // ---- text

    public int append(int character) {
        return script.add(character);
    }

    public int clearText() {
        return script.empty();
    }

    public int fault() {
        return script.firstFault();
    }

    public int run() {
        int fault = script.firstFault();
        if (fault != NONE) {
            return UNFIT_SCRIPT - fault;
        }
        history.push(now);
        int orders = script.orders();
        script.goToStart();
        for (int done = 0; done < orders; done++) {
            script.readOrder();
            if (!carryOutOrder()) {
                return done;
            }
        }
        return orders;
    }

    /** Carries out the order that was read last; false if its method would refuse it. */
    private boolean carryOutOrder() {
        int number = script.number();
        switch (script.kind()) {
            case Script.SUBMIT:
                if (now.refusalToEnter(number, script.records()) != ACCEPTED) {
                    return false;
                }
                now.enter(number, script.records(), script.isUrgent());
                return true;
            case Script.FAIL:
                now.loseClient(number);
                return true;
            case Script.WITHDRAW:
                if (now.refusalToTakeBack(number) != ACCEPTED) {
                    return false;
                }
                now.takeBack(number);
                return true;
            case Script.TICK:
                now.passTicks(number);
                return true;
            default:
                now.loseAll();
                return true;
        }
    }

    // ---- history and snapshot

    public int undo() {
        return history.popInto(now);
    }

    public int save() {
        snapshot.copyFrom(now);
        hasSnapshot = true;
        return now.time();
    }

    public int restore() {
        if (!hasSnapshot) {
            return NOT_POSSIBLE;
        }
        history.push(now);
        now.copyFrom(snapshot);
        return now.time();
    }

    // ---- queries; they change nothing

    public int commit(int commit, int what) {
        return now.aboutCommit(commit, what);
    }

    public int group(int group, int what) {
        return now.aboutGroup(group, what);
    }

    public int member(int group, int place) {
        return now.memberAt(group, place);
    }

    public int open(int client) {
        if (!Log.isClient(client)) {
            return NO_SUCH;
        }
        return now.openCommitOf(client);
    }

    public int queued(int place) {
        if (place < 0) {
            return BAD_VALUE;
        }
        return now.queuedAt(place);
    }

    public int count(int what) {
        if (what == 10) {
            return history.size();
        }
        if (what == 11) {
            return script.length();
        }
        return now.aboutNow(what);
    }

    public int total(int what) {
        return now.totalOf(what);
    }

    // ---- what would be; nothing is changed

    public int answeredIn(int client) {
        if (!Log.isClient(client)) {
            return NO_SUCH;
        }
        return now.ticksToAnswer(client);
    }

    public int ifSubmitted(int records, boolean isUrgent) {
        int refusal = now.refusalOfAnyEntry(records);
        if (refusal != ACCEPTED) {
            return refusal;
        }
        return now.ticksIfEntered(records, isUrgent);
    }

    public int idleIn() {
        return now.ticksToIdle();
    }

    public double mean() {
        return now.meanTicks();
    }

    /** The state: all that an action changes, and that the history and the snapshot hold. */
    private static final class Log {
        private static final int CLIENTS = 12;
        private static final int MOST_RECORDS = 8;
        private static final int FIRST_WAIT = 2;

        private static final int TOTALS = 8;
        private static final int ALL_SUBMITTED = 0;
        private static final int ALL_ANSWERED = 1;
        private static final int ALL_LOST = 2;
        private static final int ALL_WITHDRAWN = 3;
        private static final int ALL_BEGUN = 4;
        private static final int ALL_WRITTEN = 5;
        private static final int ALL_ON_DISK = 6;
        private static final int ALL_TICKS = 7;

        private final Commits commits = new Commits();
        private final Groups groups = new Groups();
        private final Queue queue = new Queue();
        private final Settings settings = new Settings();
        private final int[] totals = new int[TOTALS];
        private final int[] openCommits = new int[CLIENTS];
        private int time;
        private int wait;
        private int gathering;
        private int gatheringEnd;
        private int writing;
        private int ticksLeft;

        Log() {
            wait = FIRST_WAIT;
            gathering = NONE;
            writing = NONE;
            for (int client = 0; client < CLIENTS; client++) {
                openCommits[client] = NONE;
            }
        }

        void copyFrom(Log other) {
            commits.copyFrom(other.commits);
            groups.copyFrom(other.groups);
            queue.copyFrom(other.queue);
            settings.copyFrom(other.settings);
            System.arraycopy(other.totals, 0, totals, 0, TOTALS);
            System.arraycopy(other.openCommits, 0, openCommits, 0, CLIENTS);
            time = other.time;
            wait = other.wait;
            gathering = other.gathering;
            gatheringEnd = other.gatheringEnd;
            writing = other.writing;
            ticksLeft = other.ticksLeft;
        }

        // -- clients

        static boolean isClient(int client) {
            return client >= 0 && client < CLIENTS;
        }

        int openCommitOf(int client) {
            return isClient(client) ? openCommits[client] : NONE;
        }

        private void setOpenCommit(int client, int commit) {
            if (isClient(client)) {
                openCommits[client] = commit;
            }
        }

        private int busyClients() {
            int busy = 0;
            for (int client = 0; client < CLIENTS; client++) {
                if (openCommits[client] != NONE) {
                    busy++;
                }
            }
            return busy;
        }

        private static boolean isRecords(int records) {
            return records >= 1 && records <= MOST_RECORDS;
        }

        int refusalToEnter(int client, int records) {
            if (!isClient(client)) {
                return NO_SUCH;
            }
            if (!isRecords(records)) {
                return BAD_VALUE;
            }
            if (openCommitOf(client) != NONE) {
                return NOT_POSSIBLE;
            }
            return commits.isFull() ? TOO_MANY : ACCEPTED;
        }

        int refusalOfAnyEntry(int records) {
            if (!isRecords(records)) {
                return BAD_VALUE;
            }
            if (commits.isFull()) {
                return TOO_MANY;
            }
            return busyClients() == CLIENTS ? NOT_POSSIBLE : ACCEPTED;
        }

        int enter(int client, int records, boolean isUrgent) {
            if (gathering == NONE) {
                beginGroup();
            }
            int commit = commits.add(client, records, isUrgent, time, gathering);
            groups.join(gathering, records);
            setOpenCommit(client, commit);
            totals[ALL_SUBMITTED]++;
            int reason = reasonToClose(isUrgent, groups.recordsOf(gathering), gatheringEnd);
            if (reason != Groups.NO_REASON) {
                closeGathering(reason);
                startWriting();
            }
            return commit;
        }

        int loseClient(int client) {
            int commit = openCommitOf(client);
            if (commit == NONE) {
                return NONE;
            }
            if (commits.stateOf(commit) == Commits.GATHERING) {
                leaveGathering(commit);
            }
            endCommit(commit, Commits.LOST);
            totals[ALL_LOST]++;
            return commit;
        }

        int refusalToTakeBack(int client) {
            if (!isClient(client)) {
                return NO_SUCH;
            }
            int commit = openCommitOf(client);
            return commits.stateOf(commit) == Commits.GATHERING ? ACCEPTED : NOT_POSSIBLE;
        }

        int takeBack(int client) {
            int commit = openCommitOf(client);
            leaveGathering(commit);
            endCommit(commit, Commits.WITHDRAWN);
            totals[ALL_WITHDRAWN]++;
            return groups.membersOf(commits.groupOf(commit));
        }

        private void endCommit(int commit, int state) {
            commits.setState(commit, state);
            setOpenCommit(commits.clientOf(commit), NONE);
        }

        // -- groups

        private void beginGroup() {
            gathering = groups.begin();
            gatheringEnd = time + wait;
            totals[ALL_BEGUN]++;
        }

        private int reasonToClose(boolean isUrgent, int records, int end) {
            if (isUrgent) {
                return Groups.URGENT;
            }
            if (records >= settings.valueOf(FULL_SIZE)) {
                return Groups.FULL;
            }
            return end <= time ? Groups.ENDED : Groups.NO_REASON;
        }

        private void closeGathering(int reason) {
            int group = gathering;
            gathering = NONE;
            groups.close(group, reason);
            commits.moveMembers(group, Commits.GATHERING, Commits.QUEUED);
            queue.add(group);
            if (settings.valueOf(LEARN) == 1) {
                learnWait(groups.membersOf(group));
            }
        }

        private void learnWait(int members) {
            if (members > 1) {
                wait = Math.min(wait + 1, settings.valueOf(MOST));
            } else {
                wait = Math.max(wait - 1, 0);
            }
        }

        private void leaveGathering(int commit) {
            boolean wasLeader = commits.memberAt(gathering, 0) == commit;
            commits.leaveGroup(commit);
            groups.leave(gathering, commits.recordsOf(commit));
            if (groups.membersOf(gathering) == 0) {
                groups.setState(gathering, Groups.GONE);
                gathering = NONE;
            } else if (wasLeader) {
                gatheringEnd = time + wait;
            }
        }

        private int ticksToWrite(int records) {
            return settings.valueOf(FIXED) + records / 4;
        }

        private void startWriting() {
            if (writing != NONE || queue.size() == 0) {
                return;
            }
            writing = queue.takeFirst();
            ticksLeft = ticksToWrite(groups.recordsOf(writing));
            groups.setState(writing, Groups.BEING_WRITTEN);
            commits.moveMembers(writing, Commits.QUEUED, Commits.BEING_WRITTEN);
        }

        // -- the system

        int time() {
            return time;
        }

        int change(int setting, int value) {
            return settings.change(setting, value);
        }

        int passTicks(int ticks) {
            int answered = 0;
            for (int passed = 0; passed < ticks; passed++) {
                answered += passTick();
            }
            return answered;
        }

        private int passTick() {
            time++;
            int answered = 0;
            if (writing != NONE) {
                ticksLeft--;
                if (ticksLeft <= 0) {
                    answered = finishWriting();
                }
            }
            if (gathering != NONE && gatheringEnd <= time) {
                closeGathering(Groups.ENDED);
            }
            startWriting();
            return answered;
        }

        private int finishWriting() {
            int group = writing;
            writing = NONE;
            groups.setState(group, Groups.WRITTEN);
            totals[ALL_WRITTEN]++;
            totals[ALL_ON_DISK] += groups.recordsOf(group);
            int answered = 0;
            for (int client = 0; client < CLIENTS; client++) {
                int commit = openCommits[client];
                if (commit != NONE && commits.groupOf(commit) == group) {
                    commits.answer(commit, time);
                    openCommits[client] = NONE;
                    totals[ALL_TICKS] += time - commits.submitTimeOf(commit);
                    answered++;
                }
            }
            totals[ALL_ANSWERED] += answered;
            return answered;
        }

        int loseAll() {
            int lost = 0;
            for (int client = 0; client < CLIENTS; client++) {
                if (openCommits[client] != NONE) {
                    endCommit(openCommits[client], Commits.LOST);
                    lost++;
                }
            }
            totals[ALL_LOST] += lost;
            dropGroups();
            return lost;
        }

        private void dropGroups() {
            groups.setState(writing, Groups.GONE);
            writing = NONE;
            groups.setState(gathering, Groups.GONE);
            gathering = NONE;
            int waiting = queue.size();
            for (int dropped = 0; dropped < waiting; dropped++) {
                groups.setState(queue.takeFirst(), Groups.GONE);
            }
        }

        // -- queries

        int aboutCommit(int commit, int what) {
            if (!commits.has(commit)) {
                return NO_SUCH;
            }
            switch (what) {
                case 0:
                    return commits.clientOf(commit);
                case 1:
                    return commits.recordsOf(commit);
                case 2:
                    return commits.isUrgent(commit) ? 1 : 0;
                case 3:
                    return commits.stateOf(commit);
                case 4:
                    return commits.submitTimeOf(commit);
                case 5:
                    return commits.answerTimeOf(commit);
                case 6:
                    return commits.groupOf(commit);
                default:
                    return BAD_VALUE;
            }
        }

        int aboutGroup(int group, int what) {
            if (!groups.has(group)) {
                return NO_SUCH;
            }
            switch (what) {
                case 0:
                    return groups.stateOf(group);
                case 1:
                    return groups.membersOf(group);
                case 2:
                    return groups.recordsOf(group);
                case 3:
                    return group == gathering ? commits.clientOf(commits.memberAt(group, 0)) : NONE;
                case 4:
                    return group == gathering ? gatheringEnd : NONE;
                case 5:
                    return groups.reasonOf(group);
                case 6:
                    return group == writing ? ticksLeft : NONE;
                default:
                    return BAD_VALUE;
            }
        }

        int memberAt(int group, int place) {
            if (!groups.has(group)) {
                return NO_SUCH;
            }
            if (place < 0) {
                return BAD_VALUE;
            }
            return commits.memberAt(group, place);
        }

        int queuedAt(int place) {
            return queue.at(place);
        }

        int aboutNow(int what) {
            switch (what) {
                case 0:
                    return time;
                case 1:
                    return wait;
                case 2:
                    return gathering;
                case 3:
                    return writing;
                case 4:
                    return queue.size();
                case 5:
                    return busyClients();
                case 6:
                case 7:
                case 8:
                case 9:
                    return settings.valueOf(what - 6);
                default:
                    return BAD_VALUE;
            }
        }

        int totalOf(int what) {
            return what >= 0 && what < TOTALS ? totals[what] : BAD_VALUE;
        }

        double meanTicks() {
            int answered = totals[ALL_ANSWERED];
            return answered == 0 ? 0.0 : (double) totals[ALL_TICKS] / answered;
        }

        // -- what would be: nothing else is done, so a group's end and the settings stay as they are

        int ticksToAnswer(int client) {
            int commit = openCommitOf(client);
            return commit == NONE ? NONE : ticksToWritten(commits.groupOf(commit));
        }

        private int ticksToWritten(int group) {
            int ticks = ticksToEndOfWriting();
            if (group == writing) {
                return ticks;
            }
            for (int place = 0; place < queue.size(); place++) {
                ticks += ticksToWrite(groups.recordsOf(queue.at(place)));
                if (queue.at(place) == group) {
                    return ticks;
                }
            }
            // A gathering group whose end has come already closes in the next tick, not now.
            int ticksToClose = Math.max(gatheringEnd - time, 1);
            return Math.max(ticks, ticksToClose) + ticksToWrite(groups.recordsOf(group));
        }

        private int ticksToEndOfWriting() {
            return writing == NONE ? 0 : ticksLeft;
        }

        private int ticksToFreeDisk() {
            int ticks = ticksToEndOfWriting();
            for (int place = 0; place < queue.size(); place++) {
                ticks += ticksToWrite(groups.recordsOf(queue.at(place)));
            }
            return ticks;
        }

        int ticksIfEntered(int records, boolean isUrgent) {
            int together = records;
            int end = time + wait;
            if (gathering != NONE) {
                together += groups.recordsOf(gathering);
                end = gatheringEnd;
            }
            int start = ticksToFreeDisk();
            if (reasonToClose(isUrgent, together, end) == Groups.NO_REASON) {
                start = Math.max(start, end - time);
            }
            return start + ticksToWrite(together);
        }

        int ticksToIdle() {
            int ticks = 0;
            for (int client = 0; client < CLIENTS; client++) {
                ticks = Math.max(ticks, ticksToAnswer(client));
            }
            return ticks;
        }
    }

    /** All commits that were submitted, by their numbers. */
    private static final class Commits {
        static final int GATHERING = 1;
        static final int QUEUED = 2;
        static final int BEING_WRITTEN = 3;
        static final int ANSWERED = 4;
        static final int LOST = 5;
        static final int WITHDRAWN = 6;

        private static final int ROOM = 150;

        private final int[] clients = new int[ROOM];
        private final int[] records = new int[ROOM];
        private final boolean[] urgent = new boolean[ROOM];
        private final int[] states = new int[ROOM];
        private final int[] submitTimes = new int[ROOM];
        private final int[] answerTimes = new int[ROOM];
        private final int[] groups = new int[ROOM];
        private final boolean[] inGroup = new boolean[ROOM];
        private int size;

        void copyFrom(Commits other) {
            System.arraycopy(other.clients, 0, clients, 0, ROOM);
            System.arraycopy(other.records, 0, records, 0, ROOM);
            System.arraycopy(other.urgent, 0, urgent, 0, ROOM);
            System.arraycopy(other.states, 0, states, 0, ROOM);
            System.arraycopy(other.submitTimes, 0, submitTimes, 0, ROOM);
            System.arraycopy(other.answerTimes, 0, answerTimes, 0, ROOM);
            System.arraycopy(other.groups, 0, groups, 0, ROOM);
            System.arraycopy(other.inGroup, 0, inGroup, 0, ROOM);
            size = other.size;
        }

        boolean has(int commit) {
            return commit >= 0 && commit < size;
        }

        boolean isFull() {
            return size >= ROOM;
        }

        int add(int client, int commitRecords, boolean isUrgent, int time, int group) {
            if (isFull()) {
                return NONE;
            }
            int commit = size;
            size++;
            clients[commit] = client;
            records[commit] = commitRecords;
            urgent[commit] = isUrgent;
            states[commit] = GATHERING;
            submitTimes[commit] = time;
            answerTimes[commit] = NONE;
            groups[commit] = group;
            inGroup[commit] = true;
            return commit;
        }

        int clientOf(int commit) {
            return has(commit) ? clients[commit] : NONE;
        }

        int recordsOf(int commit) {
            return has(commit) ? records[commit] : 0;
        }

        boolean isUrgent(int commit) {
            return has(commit) && urgent[commit];
        }

        int stateOf(int commit) {
            return has(commit) ? states[commit] : NONE;
        }

        void setState(int commit, int state) {
            if (has(commit)) {
                states[commit] = state;
            }
        }

        int submitTimeOf(int commit) {
            return has(commit) ? submitTimes[commit] : NONE;
        }

        int answerTimeOf(int commit) {
            return has(commit) ? answerTimes[commit] : NONE;
        }

        void answer(int commit, int time) {
            if (has(commit)) {
                states[commit] = ANSWERED;
                answerTimes[commit] = time;
            }
        }

        int groupOf(int commit) {
            return has(commit) ? groups[commit] : NONE;
        }

        /** The commit keeps the group's number, since it can be asked for later. */
        void leaveGroup(int commit) {
            if (has(commit)) {
                inGroup[commit] = false;
            }
        }

        int memberAt(int group, int place) {
            int before = 0;
            for (int commit = 0; commit < size; commit++) {
                if (inGroup[commit] && groups[commit] == group) {
                    if (before == place) {
                        return commit;
                    }
                    before++;
                }
            }
            return NONE;
        }

        /** Members in another state than the first one, which are lost, stay as they are. */
        void moveMembers(int group, int from, int to) {
            for (int commit = 0; commit < size; commit++) {
                if (inGroup[commit] && groups[commit] == group && states[commit] == from) {
                    states[commit] = to;
                }
            }
        }
    }

    /** All groups that began, by their numbers. */
    private static final class Groups {
        static final int GATHERING = 1;
        static final int QUEUED = 2;
        static final int BEING_WRITTEN = 3;
        static final int WRITTEN = 4;
        static final int GONE = 5;

        static final int NO_REASON = 0;
        static final int URGENT = 1;
        static final int FULL = 2;
        static final int ENDED = 3;

        // Every group begins with a commit of its own, so there are never more groups than commits.
        private static final int ROOM = Commits.ROOM;

        private final int[] states = new int[ROOM];
        private final int[] members = new int[ROOM];
        private final int[] records = new int[ROOM];
        private final int[] reasons = new int[ROOM];
        private int size;

        void copyFrom(Groups other) {
            System.arraycopy(other.states, 0, states, 0, ROOM);
            System.arraycopy(other.members, 0, members, 0, ROOM);
            System.arraycopy(other.records, 0, records, 0, ROOM);
            System.arraycopy(other.reasons, 0, reasons, 0, ROOM);
            size = other.size;
        }

        boolean has(int group) {
            return group >= 0 && group < size;
        }

        int begin() {
            if (size >= ROOM) {
                return NONE;
            }
            int group = size;
            size++;
            states[group] = GATHERING;
            members[group] = 0;
            records[group] = 0;
            reasons[group] = NO_REASON;
            return group;
        }

        void join(int group, int commitRecords) {
            if (has(group)) {
                members[group]++;
                records[group] += commitRecords;
            }
        }

        void leave(int group, int commitRecords) {
            if (has(group)) {
                members[group]--;
                records[group] -= commitRecords;
            }
        }

        void close(int group, int reason) {
            if (has(group)) {
                states[group] = QUEUED;
                reasons[group] = reason;
            }
        }

        void setState(int group, int state) {
            if (has(group)) {
                states[group] = state;
            }
        }

        int stateOf(int group) {
            return has(group) ? states[group] : NONE;
        }

        int membersOf(int group) {
            return has(group) ? members[group] : 0;
        }

        int recordsOf(int group) {
            return has(group) ? records[group] : 0;
        }

        int reasonOf(int group) {
            return has(group) ? reasons[group] : NO_REASON;
        }
    }

    /** The queued groups; a row without a turn is enough, since a group is queued once at most. */
    private static final class Queue {
        private static final int ROOM = Groups.ROOM;

        private final int[] row = new int[ROOM];
        private int first;
        private int end;

        void copyFrom(Queue other) {
            System.arraycopy(other.row, 0, row, 0, ROOM);
            first = other.first;
            end = other.end;
        }

        int size() {
            return end - first;
        }

        void add(int group) {
            if (end < ROOM) {
                row[end] = group;
                end++;
            }
        }

        int at(int place) {
            return place >= 0 && place < size() ? row[first + place] : NONE;
        }

        int takeFirst() {
            if (first >= end) {
                return NONE;
            }
            int group = row[first];
            first++;
            return group;
        }
    }

    private static final class Settings {
        private static final int KINDS = 4;
        private static final int[] LEAST = {0, 1, 1, 0};
        private static final int[] GREATEST = {20, 40, 20, 1};
        private static final int[] FIRST = {6, 16, 4, 1};

        private final int[] values = new int[KINDS];

        Settings() {
            System.arraycopy(FIRST, 0, values, 0, KINDS);
        }

        void copyFrom(Settings other) {
            System.arraycopy(other.values, 0, values, 0, KINDS);
        }

        static int refusal(int setting, int value) {
            if (setting < 0 || setting >= KINDS) {
                return NO_SUCH;
            }
            return value < LEAST[setting] || value > GREATEST[setting] ? BAD_VALUE : ACCEPTED;
        }

        int valueOf(int setting) {
            return setting >= 0 && setting < KINDS ? values[setting] : NONE;
        }

        int change(int setting, int value) {
            int previous = valueOf(setting);
            if (setting >= 0 && setting < KINDS) {
                values[setting] = value;
            }
            return previous;
        }
    }

    /** The latest states before actions, in a ring of logs that are made once and filled again. */
    private static final class History {
        private static final int ROOM = 4;

        private final Log[] states = new Log[ROOM];
        private int oldest;
        private int size;

        History() {
            for (int slot = 0; slot < ROOM; slot++) {
                states[slot] = new Log();
            }
        }

        int size() {
            return size;
        }

        void push(Log now) {
            if (size == ROOM) {
                oldest = (oldest + 1) % ROOM;
                size--;
            }
            Log state = stateAt(size);
            if (state != null) {
                state.copyFrom(now);
                size++;
            }
        }

        private Log stateAt(int place) {
            int slot = (oldest + place) % ROOM;
            return slot >= 0 && slot < ROOM ? states[slot] : null;
        }

        int popInto(Log now) {
            if (size == 0) {
                return NONE;
            }
            size--;
            Log state = stateAt(size);
            if (state != null) {
                now.copyFrom(state);
            }
            return size;
        }
    }

    /** The text, which is looked through by an automaton and read order by order. */
    private static final class Script {
        static final int SUBMIT = 0;
        static final int FAIL = 1;
        static final int WITHDRAW = 2;
        static final int TICK = 3;
        static final int CRASH = 4;

        private static final int ROOM = 80;
        private static final char PAST_END = (char) 0;

        // What the characters up to here are, and so what may follow them.
        private static final int WRONG = -1;
        private static final int ORDER_DUE = 0;
        private static final int CLIENT_ONE = 1;
        private static final int CLIENT = 2;
        private static final int RECORDS_DUE = 3;
        private static final int RECORDS = 4;
        private static final int LETTER = 5;
        private static final int LETTER_ONE = 6;
        private static final int PLUS = 7;
        private static final int TICKS_DIGIT = 8;
        private static final int ORDER = 9;

        private final char[] characters = new char[ROOM];
        private int length;
        private int cursor;
        private int kind;
        private int number;
        private int records;
        private boolean isUrgent;

        int length() {
            return length;
        }

        int add(int character) {
            if (character < 32 || character > 126) {
                return BAD_VALUE;
            }
            if (length >= ROOM) {
                return TOO_MANY;
            }
            characters[length] = (char) character;
            length++;
            return length;
        }

        int empty() {
            int before = length;
            length = 0;
            return before;
        }

        private char characterAt(int index) {
            return index >= 0 && index < length ? characters[index] : PAST_END;
        }

        // -- the fault

        int firstFault() {
            int state = ORDER_DUE;
            for (int index = 0; index < length; index++) {
                state = after(state, characterAt(index));
                if (state == WRONG) {
                    return index;
                }
            }
            return isComplete(state) ? NONE : length;
        }

        private static boolean isComplete(int state) {
            return state == RECORDS || state == LETTER_ONE || state == TICKS_DIGIT || state == ORDER;
        }

        private static int after(int state, char next) {
            if (next == ';') {
                return isComplete(state) ? ORDER_DUE : WRONG;
            }
            switch (state) {
                case ORDER_DUE:
                    return afterFirst(next);
                case CLIENT_ONE:
                    if (next == ':') {
                        return RECORDS_DUE;
                    }
                    return next == '0' || next == '1' ? CLIENT : WRONG;
                case CLIENT:
                    return next == ':' ? RECORDS_DUE : WRONG;
                case RECORDS_DUE:
                    return next >= '1' && next <= '8' ? RECORDS : WRONG;
                case RECORDS:
                    return next == '!' ? ORDER : WRONG;
                case LETTER:
                    if (next == '1') {
                        return LETTER_ONE;
                    }
                    return isDigit(next) ? ORDER : WRONG;
                case LETTER_ONE:
                    return next == '0' || next == '1' ? ORDER : WRONG;
                case PLUS:
                    return isDigit(next) && next != '0' ? TICKS_DIGIT : WRONG;
                case TICKS_DIGIT:
                    return isDigit(next) ? ORDER : WRONG;
                default:
                    return WRONG;
            }
        }

        private static int afterFirst(char next) {
            if (next == '1') {
                return CLIENT_ONE;
            }
            if (isDigit(next)) {
                return CLIENT;
            }
            if (next == 'f' || next == 'w') {
                return LETTER;
            }
            if (next == '+') {
                return PLUS;
            }
            return next == '*' ? ORDER : WRONG;
        }

        private static boolean isDigit(char character) {
            return character >= '0' && character <= '9';
        }

        // -- reading a text that is a complete script

        int orders() {
            int orders = 1;
            for (int index = 0; index < length; index++) {
                if (characterAt(index) == ';') {
                    orders++;
                }
            }
            return orders;
        }

        void goToStart() {
            cursor = 0;
        }

        void readOrder() {
            kind = kindOf(characterAt(cursor));
            if (kind != SUBMIT) {
                cursor++;
            }
            number = readNumber();
            if (kind == SUBMIT) {
                readRecords();
            }
            // over the semicolon, or past the end of the text
            cursor++;
        }

        private static int kindOf(char first) {
            switch (first) {
                case 'f':
                    return FAIL;
                case 'w':
                    return WITHDRAW;
                case '+':
                    return TICK;
                case '*':
                    return CRASH;
                default:
                    return SUBMIT;
            }
        }

        private int readNumber() {
            int value = 0;
            for (int digits = 0; digits < 2 && isDigit(characterAt(cursor)); digits++) {
                value = 10 * value + (characterAt(cursor) - '0');
                cursor++;
            }
            return value;
        }

        private void readRecords() {
            cursor++;
            records = characterAt(cursor) - '0';
            cursor++;
            isUrgent = characterAt(cursor) == '!';
            if (isUrgent) {
                cursor++;
            }
        }

        int kind() {
            return kind;
        }

        int number() {
            return number;
        }

        int records() {
            return records;
        }

        boolean isUrgent() {
            return isUrgent;
        }
    }
}
