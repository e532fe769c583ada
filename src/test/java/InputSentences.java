import java.util.LinkedHashMap;
import java.util.Map;

/** The description: input text. */
final class InputSentences extends Starts {
    private static final String D = "Description";
    private static final String LETTERS = "pafcwrj";
    private static final String DIGITS = "0123456789";

    @Says(in = D, text = "The input buffer has at most 60 characters.")
    static void sixtyCharacters(Checks c) {
        FreshDisks x = new FreshDisks();
        type(x, "f0;".repeat(19) + "f0");
        c.due("the 60th", x.append(';'), 60);
        c.state("the 61st", x, () -> x.append('f'));
        c.due("all are kept", x.firstError(), 60);
        c.due("and cleared", x.clearInput(), 60);
        c.due("then there is room", x.append('f'), 1);
    }

    @Says(in = D, text = "A text of events is one or more events separated by \";\".")
    static void oneOrMoreEvents(Checks c) {
        FreshDisks none = new FreshDisks();
        c.argument("no event", none, none::load);
        c.due("one event", typed(3, 1, "f0").load(), 1);
        c.due("two events", typed(3, 1, "f0;f1").load(), 2);
        c.due("the most that have room", typed(3, 1, "f0;".repeat(19) + "f0").load(), 20);
        String[] wrong = {";", "f0;", ";f0", "f0;;f1", "f0f1", "f0 ;f1", "f0; f1", "f0,f1"};
        for (String text : wrong) {
            FreshDisks x = typed(3, 1, text);
            c.argument(text, x, x::load);
        }
    }

    @Says(in = D, text = "An event is \"p\" (prepare), \"a\" (accept), \"f\" (barrier), \"c\" (crash), \"w\" (wipe), \"r\" (restart) "
        + "or \"j\" (join again)")
    static void eachLetterIsItsCall(Checks c) {
        loaded(c, "p0>012", x -> x.prepare(0, 7));
        loaded(c, "a1s0=7>012", x -> x.accept(1, 0, 7, 7));
        loaded(c, "f1", x -> x.barrier(1));
        loaded(c, "c1-1", x -> x.crash(1, 1));
        loaded(c, "w2", x -> x.wipe(2));
        loaded(c, "r2", x -> x.restart(2));
        loaded(c, "j3>0134", x -> x.rejoin(3, 27));
    }

    private interface Change {
        int run(FreshDisks on);
    }

    /** Five nodes, one with a round (1), one that is down (2), one that has not joined (3), and writes that wait. */
    private static FreshDisks ready() {
        FreshDisks x = made(5, 2, false);
        x.prepare(1, 31);
        x.accept(1, 1, 4, 31);
        x.crash(2, 0);
        loseDisk(x, 3);
        return x;
    }

    private static void loaded(Checks c, String text, Change call) {
        FreshDisks x = ready();
        FreshDisks y = ready();
        long before = x.digest();
        type(x, text);
        c.due(text, x.load(), 1);
        call.run(y);
        c.same(text + " as the call", x, y);
        c.isTrue(text + " changes something", x.digest() != before);
    }

    @Says(in = D, text = "followed by the digit of a node, and")
    static void eachDigitOfANode(Checks c) {
        for (int nodes = 3; nodes <= 7; nodes++) {
            for (int digit = 0; digit <= 9; digit++) {
                for (int i = 0; i < LETTERS.length(); i++) {
                    FreshDisks x = typed(nodes, 1, LETTERS.charAt(i) + "" + digit);
                    c.due(LETTERS.charAt(i) + "" + digit + " of " + nodes, x.firstError(), digit < nodes ? 2 : 1);
                }
            }
        }
        FreshDisks x = typed(7, 1, "c6-0;c0-0");
        c.due("the first and the last", x.load(), 2);
        c.row("they are down", i -> x.node(i, 0), 0, 1, 1, 1, 1, 1, 0);
    }

    @Says(in = D, text = "- for \"p\" and \"j\", by \">\" and the digits of the nodes that are reached;")
    static void prepareAndJoin(Checks c) {
        String[] letters = {"p", "j"};
        for (String letter : letters) {
            error(c, letter + "0", 2);
            error(c, letter + "0>", 3);
            error(c, letter + "0>0123456", 10);
            error(c, letter + "0;", 2);
            error(c, letter + "00", 2);
            error(c, letter + "0-0", 2);
            error(c, letter + "0s0", 2);
            error(c, letter + "0>;", 3);
            error(c, letter + "0>>", 3);
            error(c, letter + "0>7", 3);
            error(c, letter + "0>0=", 4);
        }
    }

    @Says(in = D, text = "- for \"a\", by \"s\", the digit of a slot, \"=\", the digit of a value, \">\" and the digits of the nodes that are reached;")
    static void accept(Checks c) {
        error(c, "a6s3=9>0123456", 14);
        error(c, "a0s0=0>0", 8);
        error(c, "a0>", 2);
        error(c, "a0;", 2);
        error(c, "a0S", 2);
        error(c, "a0s4", 3);
        error(c, "a0s;", 3);
        error(c, "a0s00", 4);
        error(c, "a0s0>", 4);
        error(c, "a0s0=>", 5);
        error(c, "a0s0=:", 5);
        error(c, "a0s0=/", 5);
        error(c, "a0s0=10", 6);
        error(c, "a0s0=1;", 6);
        error(c, "a0s0=1>;", 7);
        error(c, "a0s0=1>7", 7);
        for (int slot = 0; slot < 4; slot++) {
            for (int value = 0; value <= 9; value++) {
                FreshDisks x = typed(7, 4, "p6>0123456;a6s" + slot + "=" + value + ">0123456");
                c.due("both events", x.load(), 2);
                int[] decided = {-1, -1, -1, -1};
                decided[slot] = value;
                c.row("the decided values", i -> x.slot(i, 1), decided);
            }
        }
    }

    @Says(in = D, text = "- for \"c\", by \"-\" and a digit for the number of writes that are lost.")
    static void crash(Checks c) {
        error(c, "c6-9", 4);
        error(c, "c0-0", 4);
        error(c, "c0;", 2);
        error(c, "c0>0", 2);
        error(c, "c00", 2);
        error(c, "c0-;", 3);
        error(c, "c0--", 3);
        error(c, "c0-/", 3);
        error(c, "c0-:", 3);
        error(c, "c0-10", 4);
        for (int lost = 0; lost <= 9; lost++) {
            FreshDisks x = made(3, 1, false);
            for (int i = 0; i < 9; i++) {
                x.prepare(0, 7);
            }
            type(x, "c1-" + lost);
            x.load();
            c.due("lost by the digit " + lost, x.count(11), lost);
        }
    }

    private static void error(Checks c, String text, int index) {
        c.due(text, typed(7, 4, text).firstError(), index);
    }

    @Says(in = D, text = "The digits behind \">\" are one or more")
    static void oneOrMoreDigits(Checks c) {
        String[] before = {"p1>", "j1>", "a1s0=2>"};
        for (String text : before) {
            error(c, text + ";", text.length());
            FreshDisks none = typed(7, 4, text);
            c.argument("none behind " + text, none, none::load);
            for (String digits : new String[] {"0", "6", "06", "0123456"}) {
                FreshDisks x = typed(7, 4, text + digits);
                c.isTrue(text + digits + " is complete", Checks.outcome(x::load) instanceof Long);
            }
        }
        FreshDisks x = typed(7, 1, "p1>0256");
        x.load();
        c.row("these are reached", i -> x.node(i, 3), 9, 0, 9, 0, 0, 9, 9);
    }

    @Says(in = D, text = "each greater than the one before it.")
    static void digitsAscend(Checks c) {
        String[] before = {"p1>", "j1>", "a1s0=2>"};
        for (String text : before) {
            for (int one = 0; one < 7; one++) {
                for (int next = 0; next < 7; next++) {
                    int length = text.length() + 1;
                    error(c, text + one + next, next > one ? length + 1 : length);
                    error(c, text + one + "6" + next, one < 6 ? length + 1 : length);
                }
            }
            error(c, text + "4" + ";p0>0", text.length() + 6);
        }
    }

    /** What may come behind each beginning, for each place of the rules. */
    private static Map<String, String> allowed(int nodeCount, int slotCount) {
        String nodes = DIGITS.substring(0, nodeCount);
        Map<String, String> behind = new LinkedHashMap<>();
        behind.put("", LETTERS);
        for (String letter : LETTERS.split("")) {
            behind.put(letter, nodes);
        }
        behind.put("a1s", DIGITS.substring(0, slotCount));
        behind.put("a1", "s");
        behind.put("a1s0", "=");
        behind.put("a1s0=", DIGITS);
        behind.put("a1s0=3", ">");
        behind.put("c1", "-");
        behind.put("c1-", DIGITS);
        behind.put("p1", ">");
        behind.put("j1", ">");
        for (String end : new String[] {"f1", "w1", "r1", "c1-0", "c1-9"}) {
            behind.put(end, ";");
            behind.put(end + ";", LETTERS);
        }
        for (String reach : new String[] {"p1>", "j1>", "a1s0=3>", "f0;p1>", "p0>2;j1>"}) {
            behind.put(reach, nodes);
            for (int i = 0; i < nodeCount; i++) {
                behind.put(reach + i, ";" + nodes.substring(i + 1));
                behind.put(reach + i + ";", LETTERS);
            }
            behind.put(reach + nodes, ";");
        }
        return behind;
    }

    @Says(in = D, text = "a character is a syntax error if it is not allowed at its place by these rules, with the digits of existing nodes and slots.")
    static void eachCharacterAtEachPlace(Checks c) {
        for (int nodes = 3; nodes <= 7; nodes++) {
            for (int slots = 1; slots <= 4; slots++) {
                for (Map.Entry<String, String> place : allowed(nodes, slots).entrySet()) {
                    for (char sign = 32; sign <= 126; sign++) {
                        String text = place.getKey() + sign;
                        int due = place.getValue().indexOf(sign) < 0 ? text.length() - 1 : text.length();
                        c.due(text + " of " + nodes + " and " + slots, typed(nodes, slots, text).firstError(), due);
                    }
                }
            }
        }
    }

    @Says(in = D, text = "The buffer is read from left to right")
    static void whatFollowsAnErrorDoesNotCount(Checks c) {
        error(c, "x", 0);
        error(c, "xf0", 0);
        error(c, "f0;x;x", 3);
        error(c, "f9;f0;;", 1);
        error(c, "p0>10>9;x", 4);
    }

    @Says(in = D, text = "with the digits of existing nodes and slots.")
    static void digitsOfNodesAndSlotsThatExistNow(Checks c) {
        FreshDisks x = typed(7, 4, "p6>6;a6s3=0>6");
        c.due("all exist", x.firstError(), 13);
        x.begin(6, 4);
        c.due("node 6 is gone", x.firstError(), 1);
        x.begin(7, 3);
        c.due("slot 3 is gone", x.firstError(), 8);
        x.begin(7, 4);
        c.due("all exist again", x.firstError(), 13);
    }

    @Says(in = D, text = "A buffer without a syntax error is complete if a \";\" could come next.")
    static void completeIfTheNextCouldBeASeparator(Checks c) {
        for (int nodes = 3; nodes <= 7; nodes++) {
            for (Map.Entry<String, String> place : allowed(nodes, 2).entrySet()) {
                FreshDisks x = typed(nodes, 2, place.getKey());
                if (place.getValue().contains(";")) {
                    c.isTrue(place.getKey() + " is complete", Checks.outcome(x::load) instanceof Long);
                } else {
                    c.argument(place.getKey() + " is not", x, x::load);
                }
            }
        }
    }

    /** Behind 60 characters nothing has room, though the rules would let a ";" come. */
    @Says(in = D, text = "A buffer without a syntax error is complete if a \";\" could come next.")
    static void completeWhenFull(Checks c) {
        FreshDisks x = typed(3, 1, "p0>0;p0>0;" + "f0;".repeat(16) + "f0");
        c.state("it is full", x, () -> x.append(';'));
        c.due("all events", x.load(), 19);
        FreshDisks y = typed(3, 1, "f0;".repeat(20));
        c.argument("full, and not complete", y, y::load);
    }
}
