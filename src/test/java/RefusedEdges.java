import java.util.ArrayList;
import java.util.List;
import java.util.function.Supplier;

/** What is refused changes nothing: two objects made alike stay alike, though one of them refused a call. */
final class RefusedEdges {
    private static final int BAD = -1, STATE = -2, FULL = -3;
    private static final int MAX = Keeper.MAX, MIN = Keeper.MIN;

    private RefusedEdges() {
    }

    static void run() {
        Document.says(0, "what is refused changes nothing (but THE TAPE, as told).", () -> {
            ofNew();
            amid();
            full();
            fullTape();
            text();
        });
    }

    /** Nothing but what a new object has. */
    private static void ofNew() {
        Supplier<Keeper> made = Keeper::new;
        refuses(made, STATE, "undo");
        refuses(made, STATE, "redo");
        refuses(made, STATE, "back", 0);
        refuses(made, STATE, "back", 1);
        refuses(made, BAD, "put", 0, 'a');
        refuses(made, BAD, "drop", 0, 1);
        refuses(made, BAD, "mark", 0, 1);
        refuses(made, BAD, "end", 1);
        refuses(made, -11, "lay", 0, 0, 'a');
        refuses(made, -14, "sheet", 0, 0, -1);
    }

    /** Signs, a mark, edits on both sides, an image, sheets, a fault of a text, one of a read, bytes on the tape. */
    private static Keeper makeAmid() {
        Keeper x = Keeper.of("a(/)[", 1).does("keep", 0).lays(0, 0, "x(!").lays(1, 1, "pq").does("sheet", 3, 2, 0);
        x.does("read", 1, 1, 1, 2).does("put", 0, 'b').does("mark", 4, 1).does("undo");
        return x.feeds("row\"a!").does("text").feeds("row\"x\";");
    }

    private static void amid() {
        Supplier<Keeper> made = RefusedEdges::makeAmid;
        refusedAsks(made);
        refusedEdits(made);
        refuses(made, BAD, "feed", -1);
        refuses(made, BAD, "feed", 128);
        refuses(made, BAD, "end", -1);
        refuses(made, BAD, "end", 8);
        refuses(made, BAD, "keep", -1);
        refuses(made, BAD, "keep", 2);
        refuses(made, BAD, "back", -1);
        refuses(made, BAD, "back", 2);
        refuses(made, STATE, "back", 1);
        refuses(made, BAD, "sheet", 4, 0, 1);
        refuses(made, BAD, "sheet", 0, 3, 1);
        refuses(made, BAD, "sheet", 0, 0, 41);
        refuses(made, -14, "sheet", 0, 1, -1);
        refuses(made, -14, "sheet", 2, 1, MIN);
        refuses(made, BAD, "lay", 4, 0, 'z');
        refuses(made, -11, "lay", 2, 0, 'z');
        refuses(made, -12, "lay", 0, 3, 'z');
        refuses(made, -12, "lay", 0, -1, 'z');
        refuses(made, -12, "lay", 3, 0, 'z');
        refuses(made, BAD, "read", 4, 0, 0, 1);
        refuses(made, BAD, "read", 0, 3, 0, 1);
        refuses(made, BAD, "read", 0, 0, 0, 41);
        refuses(made, BAD, "read", 0, 0, 0, -1);
        refuses(made, -22, "read", 0, 0, 0, 3);
        refuses(made, -20, "read", 0, 0, 2, 1);
    }

    private static void refusedAsks(Supplier<Keeper> made) {
        refuses(made, BAD, "reason", 3);
        refuses(made, BAD, "rule", 11);
        refuses(made, BAD, "sign", 6, 0);
        refuses(made, BAD, "low", 2, 1);
        refuses(made, BAD, "around", 6, 3);
        refuses(made, BAD, "whole", 7);
        refuses(made, BAD, "bare", 7, 0);
        refuses(made, BAD, "longest", 2);
        refuses(made, BAD, "seen", -1);
        refuses(made, BAD, "count", 5);
    }

    private static void refusedEdits(Supplier<Keeper> made) {
        refuses(made, BAD, "put", 6, 'a');
        refuses(made, BAD, "put", -1, 'a');
        refuses(made, BAD, "put", 1, '!');
        refuses(made, BAD, "insert", 7, 'a');
        refuses(made, BAD, "insert", -1, 'a');
        refuses(made, BAD, "insert", 0, 'A');
        refuses(made, BAD, "drop", 0, 7);
        refuses(made, BAD, "drop", 5, 2);
        refuses(made, BAD, "drop", 0, 0);
        refuses(made, BAD, "drop", 1, MAX);
        refuses(made, BAD, "move", 0, 2, 1);
        refuses(made, BAD, "move", 0, 1, 7);
        refuses(made, BAD, "move", 0, 0, 0);
        refuses(made, BAD, "copy", 0, 7, 0);
        refuses(made, BAD, "copy", 0, 1, 7);
        refuses(made, BAD, "copy", 0, 0, 0);
        refuses(made, BAD, "turn", 0, 7);
        refuses(made, BAD, "turn", 1, 0);
        refuses(made, BAD, "mark", 0, 1);
        refuses(made, BAD, "mark", 3, 0);
        refuses(made, BAD, "mark", 1, 2);
        refuses(made, BAD, "mark", 6, 1);
        refuses(made, BAD, "grow", 7, 0);
        refuses(made, BAD, "grow", 7, 31);
        Supplier<Keeper> doneAgain = () -> makeAmid().does("redo");
        refuses(doneAgain, STATE, "redo");
        Supplier<Keeper> undone = () -> makeAmid().does("undo").does("undo");
        refuses(undone, STATE, "undo");
    }

    private static void full() {
        Supplier<Keeper> made = () -> Keeper.of("(".repeat(58) + "/)", 0).lays(0, 0, "bc").does("put", 58, '/').does("put", 59, ']').does("undo");
        refuses(made, FULL, "insert", 0, 'a');
        refuses(made, FULL, "insert", 60, 'a');
        refuses(made, FULL, "copy", 0, 1, 0);
        refuses(made, FULL, "copy", 0, 60, 60);
        refuses(made, -20, "read", 0, 0, 0, 2);
        Supplier<Keeper> room = () -> Keeper.of("(".repeat(59), 0).lays(0, 0, "bc").does("put", 58, '/').does("put", 58, ']').does("undo");
        refuses(room, FULL, "copy", 0, 2, 30);
        refuses(room, -21, "read", 0, 0, 0, 2);
    }

    private static void fullTape() {
        Supplier<Keeper> made = () -> new Keeper().feeds("row\"x\";" + " ".repeat(153));
        refuses(made, FULL, "feed", ' ');
        refuses(made, FULL, "feed", '!');
        refuses(made, BAD, "feed", 128);
        refuses(made, BAD, "end", 161);
    }

    /** A text that is refused takes the tape with it, and nothing else but the fault before. */
    private static void text() {
        String[] wrong = {"!", "row\"z!\";", "row\"z\";say", "row\"z\";mark 0;", "row\"z\";rep 0\"z\";", "row\"" + "z".repeat(61) + "\";"};
        for (String text : wrong) {
            Supplier<Keeper> made = () -> makeAmid().does("end", 0).feeds(text).does("text");
            Keeper again = made.get().feeds(text);
            Check.holds("a fault of " + text, again.ask("text") <= -10);
            dueAlike("text() of " + text, again, made.get());
        }
    }

    private static void refuses(Supplier<Keeper> made, int want, String name, int... args) {
        Keeper touched = made.get().due(want, name, args);
        dueAlike(Keeper.told(name, args), touched, made.get());
    }

    private static void dueAlike(String call, Keeper touched, Keeper left) {
        List<String> got = allOf(touched);
        List<String> want = allOf(left);
        Check.due("answers behind " + call, got.size(), want.size());
        for (int i = 0; i < got.size() && i < want.size(); i++) {
            Check.dueTold("behind " + call, got.get(i), want.get(i));
        }
    }

    /** All that an object can be asked for, and then, by edits, all that it has in store. */
    private static List<String> allOf(Keeper x) {
        List<String> told = new ArrayList<>();
        int n = x.ask("rule", 0);
        note(told, x, "rule", 11);
        note(told, x, "count", 5);
        note(told, x, "reason", 3);
        told.add(Keeper.told("fault", x.ask("fault")));
        told.add(Keeper.told("torn", x.ask("torn")));
        for (int i = 0; i < n; i++) {
            for (int what = 0; what < (n > 9 ? 1 : 9); what++) {
                told.add(Keeper.told("sign", i, what, x.ask("sign", i, what)));
            }
        }
        undoneAndDoneAgain(told, x);
        readOfSheets(told, x);
        for (int k = 0; k < 2; k++) {
            told.add(Keeper.told("back", k, x.ask("back", k)) + fewSigns(x));
        }
        told.add(Keeper.told("text", x.ask("text"), x.ask("fault")) + fewSigns(x));
        return told;
    }

    private static void note(List<String> told, Keeper x, String name, int many) {
        for (int what = 0; what < many; what++) {
            told.add(Keeper.told(name, what, x.ask(name, what)));
        }
    }

    private static void undoneAndDoneAgain(List<String> told, Keeper x) {
        int past = x.ask("rule", 8);
        for (int t = 0; t <= past; t++) {
            told.add(Keeper.told("undo", x.ask("undo")) + fewSigns(x));
        }
        int ahead = x.ask("rule", 9);
        for (int t = 0; t <= ahead; t++) {
            told.add(Keeper.told("redo", x.ask("redo")) + fewSigns(x));
        }
    }

    private static void readOfSheets(List<String> told, Keeper x) {
        int n = x.ask("rule", 0);
        told.add(Keeper.told("drop", n == 0 ? 0 : x.ask("drop", 0, n)));
        for (int k = 0; k < 4; k++) {
            for (int lane = 0; lane < 3; lane++) {
                told.add(Keeper.told("read", k, lane, x.ask("read", k, lane, 0, 2), x.ask("torn")));
                told.add(Keeper.told("read", k, lane, x.ask("read", k, lane, 2, 1), x.ask("torn")));
            }
        }
        told.add(fewSigns(x));
    }

    /** The signs if they are few, else their ends, since an object has but so many calls. */
    private static String fewSigns(Keeper x) {
        int n = x.ask("rule", 0);
        if (n <= 9) {
            return x.signs();
        }
        StringBuilder ends = new StringBuilder();
        for (int i : new int[] {0, 1, n - 2, n - 1}) {
            ends.append(Keeper.told("", x.ask("sign", i, 0), x.ask("sign", i, 6)));
        }
        return ends.toString();
    }
}
