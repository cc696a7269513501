import java.util.ArrayList;
import java.util.List;

/**
 * The boundary cases that ../shared/DOC.md names for the text: promises 8 to 11. The faults are compared with a grammar
 * that is written as a list of all orders, for all short texts and for each character behind each beginning. No object
 * has over 512 calls.
 */
public final class TextBoundariesTest {
    private static final int BAD_VALUE = -2, TOO_MANY = -3, NOT_POSSIBLE = -4, NONE = -5;
    private static final int FIXED = 2, LEARN = 3;
    private static final int MOST_CALLS = 512;

    private static int wrong = 0;
    private static String sentence = "";

    private static void due(String what, double got, double want) {
        if (Double.compare(got, want) != 0) {
            wrong++;
            System.out.println(sentence + " | " + what + ": answered " + got + ", due is " + want);
        }
    }

    private static int[] outside(int least, int greatest) {
        return new int[] {least - 1, least - 2, least - 1000, Integer.MIN_VALUE, Integer.MIN_VALUE + least,
            greatest + 1, greatest + 2, greatest + 1000, Integer.MAX_VALUE, Integer.MAX_VALUE - 1,
            least + 256, greatest + 256, least + 65536, greatest + 65536, least - 256, greatest - 65536};
    }

    private static void write(GroupCommits log, String text) {
        log.clearText();
        for (int i = 0; i < text.length(); i++) {
            due("the length", log.append(text.charAt(i)), i + 1);
        }
    }

    private static int runOf(GroupCommits log, String text) {
        write(log, text);
        return log.run();
    }

    public static void main(String[] args) {
        appendCharacters();
        appendRoom();
        clearText();
        emptyText();
        shortTexts();
        eachCharacterBehindEachBeginning();
        numbersInRange();
        faultsOfLongTexts();
        textIsNotState();
        ordersDoAsTheMethods();
        eachNumberInAnOrder();
        upToTheFirstRefusedOrder();
        oneAction();
        refusedRuns();
        longRuns();
        System.out.println(wrong == 0 ? "all answers are as due" : wrong + " answers are not as due");
        if (wrong != 0) {
            System.exit(1);
        }
    }

    private static void appendCharacters() {
        sentence = "append: BAD_VALUE if character is out of range (32 to 126)";
        GroupCommits log = new GroupCommits();
        for (int character : outside(32, 126)) {
            due("character " + character, log.append(character), BAD_VALUE);
        }
        for (int character = 0; character < 32; character++) {
            due("character " + character, log.append(character), BAD_VALUE);
        }
        due("the text is empty yet", log.count(11), 0);
        due("no action", log.count(10), 0);
        for (int character = 32; character <= 126; character++) {
            if (character == 32 + 80) {
                log.clearText();
            }
            due("character " + character, log.append(character), 1 + (character - 32) % 80);
        }
        due("the length", log.count(11), 15);
    }

    private static void appendRoom() {
        sentence = "append: TOO_MANY if the text has 80 characters, after BAD_VALUE";
        GroupCommits log = new GroupCommits();
        for (int length = 1; length <= 80; length++) {
            due("character " + length, log.append('+'), length);
            due("the length", log.count(11), length);
        }
        for (int character = 32; character <= 126; character++) {
            due("an 81st, " + character, log.append(character), TOO_MANY);
        }
        for (int character : outside(32, 126)) {
            due("the character is checked before, " + character, log.append(character), BAD_VALUE);
        }
        due("the length", log.count(11), 80);
        due("the text is as it was", log.fault(), 1);
        due("the length that it had", log.clearText(), 80);
        due("there is room again", log.append('*'), 1);
        due("without what was there", log.fault(), NONE);
    }

    private static void clearText() {
        sentence = "clearText returns the length that the text had";
        GroupCommits log = new GroupCommits();
        due("empty", log.clearText(), 0);
        due("empty again", log.clearText(), 0);
        log.append(' ');
        due("one", log.clearText(), 1);
        due("empty then", log.clearText(), 0);
        due("count", log.count(11), 0);
        due("no fault but that of the empty text", log.fault(), 0);
        due("no action", log.count(10), 0);
    }

    private static void emptyText() {
        sentence = "the fault of a text that is not complete (as the empty text) is its length";
        GroupCommits log = new GroupCommits();
        due("new", log.fault(), 0);
        due("run", log.run(), -100);
        log.append('*');
        due("a script", log.fault(), NONE);
        log.clearText();
        due("emptied", log.fault(), 0);
        due("run", log.run(), -100);
        due("no action", log.count(10), 0);
    }

    // ---- the grammar, as the list of all orders

    private static List<String> allOrders() {
        List<String> orders = new ArrayList<>();
        orders.add("*");
        for (int client = 0; client < 12; client++) {
            orders.add("f" + client);
            orders.add("w" + client);
            for (int records = 1; records <= 8; records++) {
                orders.add(client + ":" + records);
                orders.add(client + ":" + records + "!");
            }
        }
        for (int ticks = 1; ticks <= 99; ticks++) {
            orders.add("+" + ticks);
        }
        return orders;
    }

    private static final List<String> ORDERS = allOrders();

    private static boolean isOrder(String text) {
        return ORDERS.contains(text);
    }

    private static boolean beginsAnOrder(String text) {
        for (String order : ORDERS) {
            if (order.startsWith(text)) {
                return true;
            }
        }
        return false;
    }

    /** No order has a semicolon, so the text falls into orders that are complete but for the last one. */
    private static int faultOf(String text) {
        int begin = 0;
        for (int index = 0; index < text.length(); index++) {
            if (text.charAt(index) == ';') {
                if (!isOrder(text.substring(begin, index))) {
                    return index;
                }
                begin = index + 1;
            } else if (!beginsAnOrder(text.substring(begin, index + 1))) {
                return index;
            }
        }
        return isOrder(text.substring(begin)) ? NONE : text.length();
    }

    private static GroupCommits reader = new GroupCommits();
    private static int readerCalls = 0;

    private static void dueFault(String text) {
        if (readerCalls + text.length() + 3 > MOST_CALLS) {
            reader = new GroupCommits();
            readerCalls = 0;
        }
        readerCalls += text.length() + 3;
        int fault = faultOf(text);
        write(reader, text);
        due("the fault of '" + text + "'", reader.fault(), fault);
        if (fault != NONE) {
            due("the run of '" + text + "'", reader.run(), -100 - fault);
        }
    }

    private static void textsFrom(String begin, String characters, int length) {
        dueFault(begin);
        if (length == 0) {
            return;
        }
        for (int i = 0; i < characters.length(); i++) {
            textsFrom(begin + characters.charAt(i), characters, length - 1);
        }
    }

    private static void shortTexts() {
        sentence = "the fault is the index of the first character such that no script begins with what goes up to it";
        textsFrom("", "01289:;!fw+*", 4);
        for (String begin : new String[] {"1:", "11:8", "0:1!;", "f1;", "w11", "+9;", "*;", "10:1;1"}) {
            textsFrom(begin, "0189:;!fw+* ", 3);
        }
    }

    private static void eachCharacterBehindEachBeginning() {
        sentence = "the fault, for each character";
        String[] begins = {"", "0", "1", "2", "9", "10", "11", "0:", "1:", "11:", "0:1", "10:8", "0:1!", "11:8!", "f", "f0",
            "f1", "f2", "f10", "f11", "w", "w0", "w1", "w9", "w10", "w11", "+", "+1", "+9", "+10", "+99", "*", "*;", "f11;",
            "0:1;", "9:8!;1", "+99;+", "*;*;w"};
        for (String begin : begins) {
            for (char character = 32; character <= 126; character++) {
                dueFault(begin + character);
            }
        }
    }

    private static void numbersInRange() {
        sentence = "a client is 0 to 11, records 1 to 8, ticks 1 to 99; numbers have no leading zeros";
        for (int number = 0; number <= 130; number++) {
            for (String text : new String[] {"" + number, "0" + number, "00" + number}) {
                dueFault(text + ":1");
                dueFault("0:" + text);
                dueFault("0:" + text + "!");
                dueFault("f" + text);
                dueFault("w" + text);
                dueFault("+" + text);
            }
        }
        for (String text : new String[] {"f-1", "f+1", "w-1", "+-1", "++1", "-1:1", "+1:1", "0:-1", "0:+1"}) {
            dueFault(text);
        }
    }

    private static void faultsOfLongTexts() {
        sentence = "the fault of a text of 80 characters: no script, of any length, begins with it";
        String script = "+99;".repeat(19) + "10:1";
        due("80 characters", script.length(), 80);
        dueFault(script);
        for (int length = 70; length <= 80; length++) {
            dueFault(script.substring(0, length));
        }
        for (String end : new String[] {"10:;", "1:1;", "0:1!", "*;*;", "*;1:", "f11;", "+10;", "11:9", "11:0", "f12;", "w00;", "+100",
            "*;10", "*;12", "11:8", "w11!", "f10;", "   *", "*;;*"}) {
            dueFault("+99;".repeat(19) + end);
        }
        GroupCommits log = new GroupCommits();
        write(log, "*;".repeat(40));
        due("a full text can be the beginning of a longer script", log.fault(), 80);
        due("run", log.run(), -180);
        GroupCommits first = new GroupCommits();
        write(first, "x".repeat(80));
        due("the first character of 80", first.fault(), 0);
        GroupCommits last = new GroupCommits();
        write(last, "*;".repeat(39) + "*x");
        due("the last character of 80", last.fault(), 79);
        due("run", last.run(), -179);
    }

    private static void textIsNotState() {
        sentence = "the text is not part of the state; append, clearText and fault are no actions";
        GroupCommits log = new GroupCommits();
        log.save();
        log.tick(1);
        write(log, "+7");
        log.fault();
        due("one action, the tick", log.count(10), 1);
        log.undo();
        due("undo leaves the text", log.fault(), NONE);
        log.restore();
        due("restore leaves the text", log.count(11), 2);
        due("run", log.run(), 1);
        due("the text does not change", log.count(11), 2);
        due("run again", log.run(), 1);
        due("the time", log.count(0), 14);
        log.undo();
        due("undo of a run leaves the text", log.run(), 1);
        due("the time", log.count(0), 14);
    }

    // ---- run

    private static void ordersDoAsTheMethods() {
        sentence = "run carries out the orders of the text, one after the other, as the methods do";
        String script = "0:3;11:8!;1:1;f11;w1;+3;2:5;3:2!;f2;+10;4:1;10:6;*;9:4;+99;9:8";
        GroupCommits run = new GroupCommits();
        due("16 orders", runOf(run, script), 16);
        GroupCommits calls = new GroupCommits();
        calls.submit(0, 3, false);
        calls.submit(11, 8, true);
        calls.submit(1, 1, false);
        calls.fail(11);
        calls.withdraw(1);
        calls.tick(3);
        calls.submit(2, 5, false);
        calls.submit(3, 2, true);
        calls.fail(2);
        calls.tick(10);
        calls.submit(4, 1, false);
        calls.submit(10, 6, false);
        calls.crash();
        calls.submit(9, 4, false);
        calls.tick(99);
        calls.submit(9, 8, false);
        for (int what = 0; what < 10; what++) {
            due("count " + what, run.count(what), calls.count(what));
            due("total " + what, run.total(what), calls.total(what));
        }
        for (int number = 0; number < 9; number++) {
            for (int what = 0; what < 7; what++) {
                due("commit " + number + ", " + what, run.commit(number, what), calls.commit(number, what));
                due("group " + number + ", " + what, run.group(number, what), calls.group(number, what));
            }
        }
        due("mean", run.mean(), calls.mean());
    }

    private static void eachNumberInAnOrder() {
        sentence = "each client, number of records and number of ticks in an order";
        for (int client = 0; client < 12; client++) {
            for (int records = 1; records <= 8; records++) {
                GroupCommits log = new GroupCommits();
                due("an order", runOf(log, client + ":" + records), 1);
                due("client", log.commit(0, 0), client);
                due("records", log.commit(0, 1), records);
                due("not urgent", log.commit(0, 2), 0);
                due("withdrawn", runOf(log, "w" + client), 1);
                due("by withdrawing", log.commit(0, 3), 6);
                due("an urgent order", runOf(log, client + ":" + records + "!"), 1);
                due("client", log.commit(1, 0), client);
                due("records", log.commit(1, 1), records);
                due("urgent", log.commit(1, 2), 1);
                due("lost", runOf(log, "f" + client), 1);
                due("by failing", log.commit(1, 3), 5);
            }
        }
        for (int ticks = 1; ticks <= 99; ticks++) {
            GroupCommits log = new GroupCommits();
            due("ticks " + ticks, runOf(log, "+" + ticks), 1);
            due("the time", log.count(0), ticks);
        }
        GroupCommits urgent = new GroupCommits();
        due("urgent does not go on to the next order", runOf(urgent, "0:1!;1:1;2:2!;3:3"), 4);
        int[] isUrgent = {1, 0, 1, 0};
        for (int commit = 0; commit < 4; commit++) {
            due("commit " + commit, urgent.commit(commit, 2), isUrgent[commit]);
        }
    }

    private static void upToTheFirstRefusedOrder() {
        sentence = "up to the first order for which the method would return an error code";
        String[] refused = {"0:1", "1:8!", "2:1", "w0", "w1", "w3", "w11"};
        for (String order : refused) {
            GroupCommits log = new GroupCommits();
            log.set(LEARN, 0);
            log.submit(0, 1, true);
            log.submit(1, 1, true);
            log.submit(2, 1, false);
            due("alone, " + order, runOf(log, order), 0);
            due("first, " + order, runOf(log, order + ";+1;*"), 0);
            due("in the middle, " + order, runOf(log, "+1;5:1;" + order + ";+9;f5"), 2);
            due("last, " + order, runOf(log, "f6;" + order), 1);
            due("what stood behind is not done: the time", log.count(0), 1);
            due("what stood before is done", log.open(5), 3);
            due("and only that", log.total(0), 4);
        }
        GroupCommits none = new GroupCommits();
        due("fail answers NONE, which is no error code", runOf(none, "f0;f11;0:1;f0;f0;+1"), 6);
        due("a crash of nothing is none either", runOf(none, "*;*;+1"), 3);
        due("the time", none.count(0), 2);
        GroupCommits full = new GroupCommits();
        for (int i = 0; i < 148; i++) {
            full.submit(0, 1, false);
            full.withdraw(0);
        }
        due("TOO_MANY stops it", runOf(full, "0:1;w0;3:1!;4:1;+9"), 3);
        due("150 were submitted", full.total(0), 150);
        due("no ticks were made", full.count(0), 0);
        due("at once the next time", full.run(), 0);
    }

    private static void oneAction() {
        sentence = "run: this is one action, even if no order is carried out";
        GroupCommits log = new GroupCommits();
        due("six orders", runOf(log, "0:1;1:1;+1;f0;w1;*"), 6);
        due("one state", log.count(10), 1);
        due("undone", log.undo(), 0);
        due("all six", log.total(0) + log.total(4) + log.count(0), 0);
        log.tick(1);
        log.tick(1);
        due("no order", runOf(log, "w0;+5"), 0);
        due("is an action", log.count(10), 3);
        due("no order", log.run(), 0);
        due("is an action", log.count(10), 4);
        due("no order", log.run(), 0);
        due("the fifth drops the oldest", log.count(10), 4);
        int[] times = {2, 2, 2, 1};
        for (int left = 3; left >= 0; left--) {
            due("undo", log.undo(), left);
            due("the time", log.count(0), times[3 - left]);
        }
        due("no more", log.undo(), NONE);
        due("the time", log.count(0), 1);
    }

    private static void refusedRuns() {
        sentence = "run returns -100 minus the fault (an error code) if the text is not a complete script";
        String[] texts = {"", "x", "f", "+", "+5;", "+5;+", "+5;f12", "+5;*;x", "0:1;1:1;2:9", "+5;0:", "+5 ", "+5;;", ";+5"};
        for (String text : texts) {
            GroupCommits log = new GroupCommits();
            log.tick(3);
            log.submit(7, 1, false);
            due("'" + text + "'", runOf(log, text), -100 - faultOf(text));
            due("no action", log.count(10), 2);
            due("no ticks", log.count(0), 3);
            due("no commit", log.total(0), 1);
            due("the text stays", log.count(11), text.length());
        }
        for (int length = 1; length <= 80; length++) {
            GroupCommits log = new GroupCommits();
            due("the fault is the length " + length, runOf(log, "*;".repeat(40).substring(0, length)),
                length % 2 == 1 ? (length + 1) / 2 : -100 - length);
            due("actions", log.count(10), length % 2);
        }
    }

    private static void longRuns() {
        sentence = "run of a text of 80 characters and of as many orders as it can hold";
        GroupCommits crashes = new GroupCommits();
        due("forty orders", runOf(crashes, "*;".repeat(39) + "*"), 40);
        due("one action", crashes.count(10), 1);
        GroupCommits ticks = new GroupCommits();
        due("twenty orders", runOf(ticks, "10:1;" + "+99;".repeat(18) + "+99"), 20);
        due("the time", ticks.count(0), 19 * 99);
        due("the commit", ticks.commit(0, 5), 6);
        GroupCommits full = new GroupCommits();
        String script = "+99;".repeat(19) + "11:8";
        due("80 characters", script.length(), 80);
        due("twenty orders", runOf(full, script), 20);
        due("the last one", full.open(11), 0);
        due("its records", full.commit(0, 1), 8);
        due("at", full.commit(0, 4), 19 * 99);
        GroupCommits urgent = new GroupCommits();
        due("an urgent one at the end", runOf(urgent, "+9;".repeat(25) + "10:8!"), 26);
        due("80 characters", urgent.count(11), 80);
        due("urgent", urgent.commit(0, 2), 1);
        GroupCommits all = new GroupCommits();
        all.set(FIXED, 20);
        due("twelve commits", runOf(all, "0:1;1:1;2:1;3:1;4:1;5:1;6:1;7:1;8:1;9:1;10:1;11:1!"), 12);
        due("are answered", all.tick(23), 12);
        due("withdrawing is refused then", runOf(all, "w0"), 0);
        due("as the method does", all.withdraw(0), NOT_POSSIBLE);
    }
}
