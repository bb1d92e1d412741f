/** Boundary cases of promises 21 to 29: what sheets tell, images, counts, and the host's sheets. */
public final class BoundariesOfSheetsTest extends Boundaries {
    public static void main(String[] args) {
        tellsNumbers();
        tellsSizes();
        tellsFirst();
        tellsReplicas();
        tellsKinds();
        tellsMessages();
        tellsThirtyTwoBits();
        filmNumbers();
        filmSheets();
        image();
        back();
        backStores();
        count();
        countFull();
        sheetNumbers();
        sheetRows();
        putNumbers();
        putValues();
        item();
        copyNumbers();
        copyOutside();
        copyRows();
        Sentence.end();
    }

    private static Sentence row(Sentence sentence, int sheet, int... wants) {
        for (int i = 0; i < wants.length; i++) {
            sentence.due(wants[i], "item " + sheet + " " + i);
        }
        return sentence.due(LONG + OUTSIDE, "item " + sheet + " " + wants.length);
    }

    private static Sentence after(Sentence sentence, int sheet, int... values) {
        sentence.after("sheet " + sheet + " 0 " + values.length);
        for (int i = 0; i < values.length; i++) {
            sentence.after("put " + sheet + " " + i + " " + values[i]);
        }
        return sentence;
    }

    // ---- promise 21

    private static void tellsNumbers() {
        for (int what = 0; what < 4; what++) {
            int want = what == 0 ? NONE : what == 1 ? 15 : what == 2 ? 63 : 0;
            sentence(21, "BAD: SHEET 0 .. 3, what " + what).after("sheet 0 0 1", "sheet 3 0 1")
                .each(want, "tells _ 0 0 " + what, 0, 3).each(BAD, "tells _ 0 0 " + what, NO_SHEETS);
            sentence(21, "BAD: REPLICA 0 .. 3, what " + what).after("sheet 0 0 1").each(want, "tells 0 _ 0 " + what, 0, 3)
                .each(BAD, "tells 0 _ 0 " + what, NO_REPLICAS);
            sentence(21, "BAD: ROOM 0 .. 2, what " + what).after("sheet 0 0 1").each(want, "tells 0 0 _ " + what, 0, 2)
                .each(BAD, "tells 0 0 _ " + what, NO_ROOMS);
        }
        sentence(21, "BAD: what 0 .. 3").after("sheet 0 0 1").each(BAD, "tells 0 0 0 _", -1, 4, MIN, MAX)
            .due(NONE, "tells 0 0 0 0").due(0, "tells 0 0 0 3");
        sentence(21, "-11: the SHEET is missing").each(MISSING, "tells 0 0 0 _", 0, 1, 2, 3).after("sheet 0 0 0")
            .due(NONE, "tells 0 0 0 0").after("sheet 0 -1 0").due(MISSING, "tells 0 0 0 0");
        sentence(21, "BAD, then -11: the first that is named").each(BAD, "tells _ 0 0 0", NO_SHEETS)
            .each(BAD, "tells 0 _ 0 0", NO_REPLICAS).each(BAD, "tells 0 0 _ 0", NO_ROOMS)
            .each(BAD, "tells 0 0 0 _", -1, 4, MIN, MAX).due(MISSING, "tells 0 0 0 2");
    }

    private static void tellsSizes() {
        for (int sort = 0; sort < 2; sort++) {
            sentence(21, "BAD: it tells more than 4, of sort " + sort)
                .after("sheet 0 " + sort + " 5", "sheet 1 " + sort + " 4", "sheet 2 " + sort + " 40")
                .each(BAD, "tells 0 0 0 _", 0, 1, 2, 3).due(NONE, "tells 1 0 0 0").due(15, "tells 1 0 0 1")
                .due(63, "tells 1 0 0 2").due(0, "tells 1 0 0 3").each(BAD, "tells 2 0 0 _", 0, 1, 2, 3);
            sentence(21, "BAD: (2) nothing, of sort " + sort).after("sheet 0 " + sort + " 0", "sheet 1 " + sort + " 1")
                .due(BAD, "tells 0 0 0 2").due(63, "tells 1 0 0 2");
            sentence(21, "nothing: none is otherwise, all are so, of sort " + sort)
                .after("sheet 0 " + sort + " 0", "add 0 0 0 5", "send 0 1 0", "send 0 2 0", "send 0 1 1")
                .due(NONE, "tells 0 0 0 0").due(15, "tells 0 0 0 1").due(0b101, "tells 0 1 0 3").due(0b010, "tells 0 2 0 3")
                .due(0, "tells 0 0 0 3");
        }
    }

    private static void tellsFirst() {
        for (int first = 0; first < 4; first++) {
            Sentence one = after(sentence(21, "the first that is otherwise: " + first), 0, 1, 1, 1, 1)
                .after("add 2 1 0 5", "add 2 1 1 5", "add 2 1 2 5", "add 2 1 3 5").due(NONE, "tells 0 2 1 0")
                .after("add 2 1 " + first + " 6").due(first, "tells 0 2 1 0");
            one.after("add 2 1 3 6").due(first, "tells 0 2 1 0").due(0, "tells 0 1 1 0").due(0, "tells 0 2 0 0");
        }
        after(sentence(21, "of OBJECTS 0, 1, ..: none behind those that the SHEET tells"), 0, 1)
            .after("add 0 0 0 5", "add 0 0 1 5", "add 0 0 3 5").due(NONE, "tells 0 0 0 0");
        after(sentence(21, "of a ROOM: the last OBJECT of the last"), 3, 0, 0, 0, 1).after("add 3 2 3 5")
            .due(NONE, "tells 3 3 2 0").due(3, "tells 3 3 1 0").due(3, "tells 3 0 2 0").due(8, "tells 3 0 2 1");
    }

    private static void tellsReplicas() {
        for (int replica = 0; replica < 4; replica++) {
            after(sentence(21, "REPLICAS (bits) at which it is so: " + replica), 0, 1).after("add " + replica + " 0 0 5")
                .each(1 << replica, "tells 0 _ 0 1", 0, 1, 2, 3);
            after(sentence(21, "REPLICAS (bits) at which it is so: all but " + replica), 0, 0, 0)
                .after("add " + replica + " 0 1 5").each(15 - (1 << replica), "tells 0 _ 0 1", 0, 1, 2, 3);
        }
        after(sentence(21, "REPLICAS: at none"), 0, 9).due(0, "tells 0 0 0 1");
    }

    private static void tellsKinds() {
        after(sentence(21, "KINDS (bits 0 .. 5): all of no DOTS"), 0, 0).due(63, "tells 0 0 0 2").after("kind 0 0 5")
            .due(63, "tells 0 0 0 2");
        after(sentence(21, "KINDS: none of them"), 0, 99).after("add 0 0 0 5").due(0, "tells 0 0 0 2");
        String[] values = {"add 0 0 0 9", "add 0 0 0 4"};
        int[] worths = {2, 13, 4, 9, bits(6.5f)};
        int[] kinds = {0b000011, 0b000100, 0b001000, 0b010000, 0b100000};
        for (int i = 0; i < worths.length; i++) {
            after(sentence(21, "KINDS which, were they that of its first OBJECT, it would be so: " + i), 0, worths[i])
                .after(values).due(kinds[i], "tells 0 0 0 2").after("kind 0 0 2").due(kinds[i], "tells 0 0 0 2");
        }
        after(sentence(21, "KINDS of its first OBJECT: the others are of theirs"), 0, 2, 13).after(values)
            .after("add 0 0 1 9", "add 0 0 1 4").due(0, "tells 0 0 0 2").after("kind 0 1 2").due(0b000011, "tells 0 0 0 2");
        after(sentence(21, "KINDS were they: it is of its own still"), 0, 13).after(values).due(0b000100, "tells 0 0 0 2")
            .due(2, "worth 0 0 0").due(0, "taken 0 0 0").due(0, "tells 0 0 0 0");
        after(sentence(21, "KINDS: of a ROOM at a REPLICA, of no other"), 0, 13, 1).after("kind 2 1 3", "add 3 2 1 1")
            .after("add 3 2 0 9", "add 3 2 0 4").due(0b000100, "tells 0 3 2 2").due(0, "tells 0 3 1 2").due(0, "tells 0 2 2 2")
            .due(0, "tells 0 0 0 2");
        sentence(21, "KINDS: a SHEET of floats tells a MEAN").after(values).after("sheet 0 1 1", "put 0 0 52")
            .due(0b100000, "tells 0 0 0 2").after("kind 0 0 5").due(NONE, "tells 0 0 0 0").due(1, "tells 0 0 0 1");
    }

    private static void tellsMessages() {
        after(sentence(21, "MESSAGES (bits; to it): none wait"), 0, 0).due(0, "tells 0 0 0 3");
        for (int which = 0; which < 6; which++) {
            Sentence six = after(sentence(21, "MESSAGES (bits; to it) by the coming of which alone it would be so: " + which), 0, 1);
            for (int i = 0; i < 6; i++) {
                six.after(i == which ? "add 1 0 0 5" : "add 1 0 1 5", "send 1 2 1");
            }
            six.due(1 << which, "tells 0 2 0 3").due(0, "tells 0 3 0 3").due(0, "tells 0 0 0 3");
        }
        after(sentence(21, "MESSAGES to it: not to another"), 0, 1).after("add 1 0 0 5", "send 1 2 0", "send 1 3 0", "send 1 2 0")
            .due(0b101, "tells 0 2 0 3").due(0b010, "tells 0 3 0 3").due(0, "tells 0 0 0 3").due(0, "tells 0 1 0 3");
        after(sentence(21, "MESSAGES alone: not together"), 0, 2).after("add 1 0 0 5", "send 1 0 1", "add 1 0 0 6", "send 1 0 1")
            .due(0, "tells 0 0 0 3").after("send 1 0 0").due(0b100, "tells 0 0 0 3");
        after(sentence(21, "MESSAGES: it would be so, and is not"), 0, 1).after("add 1 0 0 5", "send 1 0 1")
            .due(1, "tells 0 0 0 3").due(0, "worth 0 0 0").due(0, "tells 0 0 0 0").due(0, "told 0 1 11");
        after(sentence(21, "MESSAGES: it is so already, and would stay"), 0, 0).after("send 1 0 1", "add 1 0 0 5", "send 1 0 1")
            .due(NONE, "tells 0 0 0 0").due(0b01, "tells 0 0 0 3");
        after(sentence(21, "MESSAGES: by what it takes away"), 0, 0)
            .after("add 1 0 0 5", "send 1 0 1", "come 0", "take 1 0 0 5", "send 1 0 1").due(0, "tells 0 0 0 0")
            .due(1, "tells 0 0 0 3");
    }

    private static void tellsThirtyTwoBits() {
        after(sentence(21, "the lowest 32 bits: above the greatest int"), 0, MIN)
            .after("kind 0 0 2", "add 0 0 0 MAX", "add 0 0 0 1").due(NONE, "tells 0 0 0 0").due(1, "tells 0 0 0 1")
            .due(0b000100, "tells 0 0 0 2");
        after(sentence(21, "the lowest 32 bits: of 2 ^ 32 they are 0"), 0, 0)
            .after("kind 0 0 2", "add 0 0 0 MIN", "add 0 0 0 MIN").due(-4294967296L, "worth 0 0 0").due(NONE, "tells 0 0 0 0")
            .due(15, "tells 0 0 0 1");
        after(sentence(21, "the lowest 32 bits, of a MESSAGE too"), 0, MAX)
            .after("kind 0 0 2", "add 1 0 0 MIN", "add 1 0 0 -1", "send 1 0 0").due(1, "tells 0 0 0 3");
    }

    // ---- promise 22

    private static void filmNumbers() {
        sentence(22, "BAD: a SHEET").each(BAD, "film _ 0 0 1", NO_SHEETS).due(1, "film 0 0 0 1").due(1, "film 3 0 0 1")
            .each(BAD, "film _ 0 0 2", NO_SHEETS);
        sentence(22, "BAD: a REPLICA").after("add 0 0 0 5", "add 3 0 0 5", "sheet 0 0 3").each(BAD, "film 0 _ 0 1", NO_REPLICAS)
            .due(1, "film 0 0 0 1").due(1, "item 0 0").due(1, "film 1 3 0 1").due(1, "item 1 0");
        sentence(22, "BAD: a ROOM").after("add 0 0 0 5", "add 0 2 0 5", "sheet 0 0 3").each(BAD, "film 0 0 _ 1", NO_ROOMS)
            .due(1, "film 0 0 0 1").due(1, "item 0 0").due(1, "film 1 0 2 1").due(1, "item 1 0");
        Sentence sizes = sentence(22, "BAD: n 0 .. 4").after("sheet 0 1 3", "put 0 0 8")
            .each(BAD, "film 0 0 0 _", -1, 5, 40, MIN, MAX);
        for (int n = 4; n >= 0; n--) {
            sizes.due(n, "film 0 0 0 " + n).due(LONG + OUTSIDE, "item 0 " + n);
        }
        sentence(22, "BAD: a SHEET that is missing stays so").each(BAD, "film 0 0 0 _", -1, 5).due(BAD, "film 0 4 0 1")
            .due(LONG + MISSING, "item 0 0").due(0, "film 0 0 0 0").due(LONG + OUTSIDE, "item 0 0");
    }

    private static void filmSheets() {
        String[] values = {"add 3 2 0 5", "add 3 2 1 5", "add 3 2 1 5", "add 3 2 3 7", "kind 2 3 2", "add 3 1 0 5"};
        row(sentence(22, "OBJECTS 0 .. n - 1 (n 4)").after(values).due(4, "film 2 3 2 4"), 2, 1, 2, 0, 7);
        row(sentence(22, "OBJECTS 0 .. n - 1 (n 3)").after(values).due(3, "film 2 3 2 3"), 2, 1, 2, 0);
        row(sentence(22, "OBJECTS 0 .. n - 1 (n 0): none").after(values).due(0, "film 2 3 2 0"), 2);
        row(sentence(22, "truly becomes: whatever it was, ints").after(values)
            .after("sheet 2 1 40", "put 2 0 8", "put 2 3 8", "put 2 39 8").due(4, "film 2 3 2 4")
            .after("put 2 2 8"), 2, 1, 2, 8, 7);
        row(sentence(22, "truly becomes: a shorter one becomes longer").after(values).after("sheet 2 0 1", "put 2 0 8")
            .due(4, "film 2 3 2 4"), 2, 1, 2, 0, 7);
        row(sentence(22, "truly: what is done later isn't in it").after("add 0 0 0 5").due(1, "film 0 0 0 1")
            .after("add 0 0 0 5"), 0, 1).due(0, "tells 0 0 0 0");
        row(sentence(22, "the lowest 32 bits: above and below ints")
            .after("kind 0 0 2", "add 0 0 0 MAX", "add 0 0 0 1", "kind 0 1 2", "add 0 0 1 MIN", "add 0 0 1 -1", "kind 0 2 2", "add 0 0 2 MIN", "add 0 0 2 MIN")
            .due(4, "film 0 0 0 4"), 0, MIN, MAX, 0, 0).due(NONE, "tells 0 0 0 0");
        row(sentence(22, "WORTH of a MEAN: ints, the ints of the 32 bits").after("kind 0 0 5", "add 0 0 0 -1")
            .due(1, "film 0 0 0 1"), 0, bits(-1f)).after("put 0 0 8").due(8, "item 0 0");
        sentence(22, "A SHEET: the others are as they were")
            .after("sheet 1 0 2", "put 1 0 9", "sheet 3 1 1", "put 3 0 8", "add 0 0 0 5").due(1, "film 2 0 0 1")
            .due(9, "item 1 0").due(0, "item 1 1").due(bits(1f), "item 3 0").due(LONG + MISSING, "item 0 0");
    }

    // ---- promises 23 and 24

    private static void image() {
        sentence(23, "how many MESSAGES wait: none").due(0, "image");
        Sentence six = sentence(23, "how many MESSAGES wait: up to 6");
        for (int i = 1; i <= 6; i++) {
            six.after("send 0 1 0").due(i, "image");
        }
        six.due(6, "back").due(1, "lose 5").due(5, "image").due(5, "back");
        sentence(23, "AN IMAGE is kept: the one ahead of it is not").after("add 0 0 0 5").due(0, "image").after("add 0 0 0 6")
            .due(0, "image").after("add 0 0 0 7").due(0, "back").due(2, "count 0").due(2, "worth 0 0 0");
        sentence(23, "AN IMAGE changes nothing but itself").after("add 0 0 0 5", "send 0 1 1").due(1, "image").due(1, "come 0")
            .due(1, "told 1 0 0").due(1, "count 0").due(0, "send 0 2 1").due(1, "letter 0 2");
    }

    private static void back() {
        sentence(24, "STATE: there is none").due(STATE, "back").after("add 0 0 0 5", "sheet 0 0 1").due(STATE, "back")
            .due(0, "image").due(0, "back");
        sentence(24, "how many MESSAGES wait: of 6 that went").times(6, "send 1 2 0").due(6, "image").times(6, "lose 0")
            .due(6, "back").due(6, "count 1").due(FULL, "send 1 2 0");
        sentence(24, "how many MESSAGES wait: none, of 6 that came to wait").due(0, "image").times(6, "send 1 2 0").due(0, "back")
            .due(BAD, "letter 0 0").due(0, "send 0 1 0");
        sentence(24, "as often as one likes").after("add 0 0 0 5").due(0, "image").due(0, "back").after("add 0 0 0 6")
            .due(0, "back").after("add 0 0 0 7").due(0, "back").due(1, "count 0").due(1, "worth 0 0 0");
        sentence(24, "all that it keeps: of no DOTS").due(0, "image").times(31, "add 0 0 0 5").due(FULL, "add 0 0 0 5")
            .due(0, "back").due(0, "count 0").due(OUTSIDE, "dot 0 0 0").due(0, "add 0 0 0 6").due(6, "dot 0 0 0")
            .due(1, "dot 0 0 1");
        sentence(24, "all that it keeps: FULL").times(31, "add 0 0 0 5").due(0, "image").after("reset 0 0").due(0, "back")
            .due(FULL, "add 0 0 0 5").due(31, "worth 0 0 0");
        sentence(24, "AN IMAGE keeps all but SHEETS").after("sheet 0 0 2", "put 0 0 7", "sheet 1 1 1", "put 1 0 8")
            .due(0, "image").after("put 0 0 9", "sheet 1 -1 0", "sheet 2 0 1").due(0, "back").due(9, "item 0 0")
            .due(0, "item 0 1").due(LONG + MISSING, "item 1 0").due(0, "item 2 0").due(LONG + MISSING, "item 3 0");
    }

    private static void backStores() {
        sentence(24, "as in THE IMAGE: STORES").after("add 3 0 0 5", "add 3 0 0 6", "take 3 0 0 5").due(0, "image")
            .after("take 3 0 0 6", "add 3 0 0 7", "add 0 0 0 7").due(0, "back").due(0b11, "told 3 3 0").due(0b10, "told 3 3 1")
            .due(0, "told 0 0 0");
        sentence(24, "as in THE IMAGE: PARCELS").after("add 3 0 0 5").due(0, "image")
            .after("send 3 0 1", "add 3 0 0 6", "send 3 2 1").due(0, "back").due(0, "send 3 0 1").due(1, "letter 0 2")
            .due(1, "send 3 2 1").due(1, "letter 1 2");
        sentence(24, "as in THE IMAGE: KINDS").after("kind 0 0 1", "kind 2 3 5").due(0, "image")
            .after("kind 0 0 2", "kind 2 3 3", "kind 1 1 4").due(0, "back").due(1, "kind 0 0 0").due(5, "kind 2 3 0")
            .due(0, "kind 1 1 0");
        sentence(24, "as in THE IMAGE: KNOWN").after("add 0 0 0 5", "send 0 1 0", "come 0", "send 1 0 0").due(1, "image")
            .due(0, "come 0").due(1, "told 0 1 10").due(1, "back").due(0, "told 0 1 10").due(1, "told 1 0 10").due(0, "come 0")
            .due(1, "told 0 1 10");
        sentence(24, "as in THE IMAGE: MESSAGES, their STORES and what their senders had HEARD")
            .after("add 0 0 0 5", "send 0 1 1", "lose 0", "add 0 0 0 6", "send 0 1 1").due(1, "image")
            .after("add 0 0 0 7", "lose 0", "send 0 2 0", "send 2 3 0").due(1, "back").due(0, "letter 0 0").due(1, "letter 0 1")
            .due(1, "letter 0 2").due(1, "letter 0 3").due(1, "come 0").due(0b11, "told 1 0 10").due(0b10, "told 1 0 0");
        sentence(24, "as in THE IMAGE: VALUES, STAMPS and OBJECTS of DOTS made anew").after("add 1 0 0 5").due(0, "image")
            .after("add 1 2 3 6", "add 1 1 1 8").due(0, "back").due(1, "add 1 1 2 7").due(7, "dot 1 1 0").due(2, "dot 1 1 1")
            .due(12, "dot 1 1 2").due(OUTSIDE, "dot 1 2 0").due(1, "worth 1 1 2").due(0, "worth 1 2 3");
        sentence(24, "as in THE IMAGE: MET's STORE").after("add 0 0 0 5").due(0, "image").after("add 3 0 0 6", "take 0 0 0 5")
            .due(1, "met 0 0").due(1, "count 3").due(0, "count 2").due(0, "back").due(1, "met 0 0").due(1, "count 3").due(1, "count 2")
            .after("take 0 0 0 5").due(0, "met 0 0").due(0, "back").due(1, "met 0 0").due(1, "drawn 7 0");
        sentence(24, "THE IMAGE is as it was, whatever is done after it is laid back")
            .after("add 0 0 0 5", "send 0 1 1", "kind 0 1 3").due(1, "image").due(1, "back")
            .after("come 0", "take 0 0 0 5", "kind 0 1 4", "send 0 2 1").due(1, "back").due(1, "letter 0 2").due(1, "worth 0 0 0")
            .due(0, "told 1 0 0").due(3, "taken 0 1 0").due(1, "send 0 2 1").due(1, "letter 1 3");
    }

    // ---- promise 25

    private static void count() {
        sentence(25, "BAD: what 0 .. 4").after("add 0 0 0 5", "send 0 1 0").each(BAD, "count _", -1, 5, 10, MIN, MAX)
            .due(1, "count 0").due(1, "count 1").due(1, "count 2").due(1, "count 3").due(0, "count 4");
        sentence(25, "DOTS made ever: none, then one of each").due(0, "count 0").after("add 0 0 0 5").due(1, "count 0")
            .after("add 3 0 0 5", "add 1 0 0 5", "add 2 0 0 5").due(4, "count 0").after("reset 0 0").due(4, "count 0");
        Sentence waiting = sentence(25, "MESSAGES that wait: 0 .. 6");
        for (int i = 0; i < 6; i++) {
            waiting.due(i, "count 1").after("send 0 1 0");
        }
        waiting.due(6, "count 1").due(FULL, "twice 0").due(6, "count 1").after("come 0").due(5, "count 1").after("lose 4")
            .due(4, "count 1").after("twice 3").due(5, "count 1");
        sentence(25, "REPLICAS ALIKE MET's STORE: 4, 1, none, and all again").due(4, "count 2").after("add 0 0 0 5")
            .due(1, "count 2").after("add 1 0 0 5").due(0, "count 2").after("send 0 1 0", "come 0").due(1, "count 2")
            .after("send 1 0 0", "send 1 2 0", "send 1 3 0", "come 0").due(2, "count 2").after("come 0").due(3, "count 2")
            .after("come 0").due(4, "count 2");
        sentence(25, "ALIKE: HEARD alone is not enough")
            .after("add 0 0 0 5", "send 0 1 0", "send 0 2 0", "send 0 3 0", "come 0", "come 0", "come 0").due(4, "count 2")
            .after("take 3 0 0 5").due(1, "count 2");
        sentence(25, "DOTS ALIVE in MET's STORE: not those that one took away").due(0, "count 3")
            .after("add 0 0 0 5", "add 1 2 3 5").due(2, "count 3").after("send 0 1 0", "come 0").due(2, "count 3")
            .after("take 1 0 0 5").due(1, "count 3").after("take 1 2 3 5").due(0, "count 3");
        sentence(25, "TAGS of all REPLICAS, together").after("add 0 0 0 5", "take 0 0 0 5").due(1, "count 4")
            .after("add 3 0 0 5", "add 3 0 0 5", "take 3 0 0 5").due(3, "count 4").after("send 0 1 0", "come 0")
            .due(4, "count 4");
        sentence(25, "TAGS: STABLE ones are none")
            .after("add 0 0 0 5", "take 0 0 0 5", "send 0 1 0", "send 0 2 0", "send 0 3 0", "come 0", "come 0", "come 0")
            .due(4, "count 4").after("send 1 0 1", "send 2 0 1", "send 3 0 1", "come 0", "come 0").due(4, "count 4")
            .after("come 0").due(3, "count 4");
    }

    private static void countFull() {
        Sentence full = sentence(25, "How many, of all 124 DOTS").times(31, "add 0 0 0 5").times(31, "add 1 0 1 5")
            .times(31, "add 2 0 2 5").times(30, "add 3 0 3 5").due(123, "count 0").due(123, "count 3").after("add 3 0 3 5")
            .due(124, "count 0").due(124, "count 3").due(0, "count 2").due(0, "count 4");
        full.after("send 0 3 0", "send 1 3 0", "send 2 3 0", "come 0", "come 0", "come 0").due(1, "count 2").after("reset 3 0")
            .due(0, "count 3").due(124, "count 4").due(1, "count 2");
        full.after("send 3 0 0", "send 3 1 0", "send 3 2 0", "come 0", "come 0", "come 0").due(496, "count 4").due(4, "count 2")
            .due(0, "count 3").due(124, "count 0");
    }

    // ---- promise 26

    private static void sheetNumbers() {
        for (int sort = -1; sort < 2; sort++) {
            sentence(26, "BAD: no such SHEET, of sort " + sort).each(BAD, "sheet _ " + sort + " 1", NO_SHEETS)
                .due(1, "sheet 0 " + sort + " 1").due(1, "sheet 3 " + sort + " 1").each(BAD, "sheet _ " + sort + " 2", NO_SHEETS);
        }
        sentence(26, "BAD: no such sort").each(BAD, "sheet 0 _ 1", -2, 2, MIN, MAX).due(1, "sheet 0 1 1")
            .each(BAD, "sheet 0 _ 2", -2, 2, MIN, MAX).due(1, "sheet 0 0 2").due(1, "sheet 0 -1 3");
        for (int sort = 0; sort < 2; sort++) {
            sentence(26, "BAD: n above 40, of sort " + sort).each(BAD, "sheet 0 " + sort + " _", 41, 42, MAX)
                .due(LONG + MISSING, "item 0 0").due(1, "sheet 0 " + sort + " 40").due(0, "item 0 39")
                .due(LONG + OUTSIDE, "item 0 40").due(BAD, "sheet 0 " + sort + " 41").due(1, "sheet 0 " + sort + " 39")
                .due(LONG + OUTSIDE, "item 0 39");
            sentence(26, "-14: a size below 0, of sort " + sort).each(BELOW, "sheet 0 " + sort + " _", -1, -2, MIN)
                .due(LONG + MISSING, "item 0 0").due(1, "sheet 0 " + sort + " 0").due(LONG + OUTSIDE, "item 0 0")
                .due(BELOW, "sheet 0 " + sort + " -1");
        }
        sentence(26, "BAD, then -14: the first that is named").due(BAD, "sheet 4 0 -1").due(BAD, "sheet -1 0 -1")
            .due(BAD, "sheet 0 2 -1").due(BAD, "sheet 0 -2 -1").due(BELOW, "sheet 0 0 -1");
        sentence(26, "missing (sort -1: n does not matter)").after("sheet 0 0 3").due(1, "sheet 0 -1 41")
            .due(LONG + MISSING, "item 0 0").due(1, "sheet 0 -1 -1").due(1, "sheet 0 -1 MIN").due(1, "sheet 0 -1 MAX")
            .due(1, "sheet 0 -1 0").due(LONG + MISSING, "item 0 0").due(1, "sheet 0 0 1").due(0, "item 0 0");
    }

    private static void sheetRows() {
        for (int sort = 0; sort < 2; sort++) {
            Sentence zero = sentence(26, "a row of n, all 0, of sort " + sort).after("sheet 0 0 40");
            for (int i = 0; i < 40; i++) {
                zero.after("put 0 " + i + " " + (i + 1));
            }
            zero.due(1, "sheet 0 " + sort + " 40");
            for (int i = 0; i < 40; i++) {
                zero.due(0, "item 0 " + i);
            }
        }
        sentence(26, "a row of n: one that was longer").after("sheet 1 0 3", "put 1 2 7").due(1, "sheet 1 0 2")
            .due(LONG + OUTSIDE, "item 1 2").due(1, "sheet 1 0 3").due(0, "item 1 2");
        sentence(26, "of a sort: sort 0 ints, 1 floats").due(1, "sheet 1 0 1").after("put 1 0 8").due(8, "item 1 0")
            .due(1, "sheet 1 1 1").after("put 1 0 8").due(bits(1f), "item 1 0").due(1, "sheet 1 0 1").after("put 1 0 8")
            .due(8, "item 1 0");
        sentence(26, "A SHEET: the others are as they were").after("sheet 0 0 1", "put 0 0 7", "sheet 2 1 1", "put 2 0 8")
            .due(1, "sheet 1 0 2").due(7, "item 0 0").due(bits(1f), "item 2 0").due(LONG + MISSING, "item 3 0")
            .due(1, "sheet 1 -1 0").due(7, "item 0 0");
    }

    // ---- promises 27 and 28

    private static void putNumbers() {
        sentence(27, "BAD: no such SHEET").after("sheet 0 0 1", "sheet 3 0 1").each(BAD, "put _ 0 7", NO_SHEETS)
            .each(1, "put _ 0 7", 0, 3).each(BAD, "put _ 9 7", NO_SHEETS);
        sentence(27, "-11: it is missing").each(MISSING, "put 0 _ 7", -1, 0, 1, 40, MIN, MAX).after("sheet 0 0 1")
            .due(1, "put 0 0 7").after("sheet 0 -1 0").due(MISSING, "put 0 0 7");
        for (int sort = 0; sort < 2; sort++) {
            sentence(27, "-12: a place outside, of sort " + sort).after("sheet 0 " + sort + " 3")
                .each(OUTSIDE, "put 0 _ 8", -1, 3, 4, 39, 40, MIN, MAX).due(1, "put 0 0 8").due(1, "put 0 2 8")
                .due(0, "item 0 1");
            sentence(27, "-12: of a row of 40, of sort " + sort).after("sheet 0 " + sort + " 40")
                .each(OUTSIDE, "put 0 _ 8", -1, 40, 41, MIN, MAX).due(1, "put 0 39 8");
            sentence(27, "-12: of a row of none, of sort " + sort).after("sheet 0 " + sort + " 0")
                .each(OUTSIDE, "put 0 _ 8", -1, 0, 1, MIN, MAX);
        }
        sentence(27, "Item i of a SHEET: no other becomes it").after("sheet 0 0 3", "sheet 1 0 3").due(1, "put 0 1 7")
            .due(0, "item 0 0").due(7, "item 0 1").due(0, "item 0 2").due(0, "item 1 1");
    }

    private static void putValues() {
        int[] ints = {0, 1, -1, MIN, MIN + 1, MAX, MAX - 1, 16777217, -16777217};
        for (int v : ints) {
            sentence(27, "becomes v: the int " + v).after("sheet 0 0 1").due(1, "put 0 0 " + v).due(v, "item 0 0");
        }
        sentence(27, "of floats v, divided by 8: 0, the least, and the signs").after("sheet 0 1 6").due(1, "put 0 0 0")
            .due(1, "put 0 1 1").due(1, "put 0 2 -1").due(1, "put 0 3 8").due(1, "put 0 4 -8").due(1, "put 0 5 7")
            .due(0, "item 0 0").due(0x3E000000, "item 0 1").due(0xBE000000, "item 0 2").due(0x3F800000, "item 0 3")
            .due(0xBF800000, "item 0 4").due(0x3F600000, "item 0 5");
        sentence(27, "as the nearest float: the ends of ints").after("sheet 0 1 4").due(1, "put 0 0 MAX").due(1, "put 0 1 MIN")
            .due(1, "put 0 2 2147483583").due(1, "put 0 3 2147483584").due(0x4D800000, "item 0 0").due(0xCD800000, "item 0 1")
            .due(0x4D7FFFFF, "item 0 2").due(0x4D800000, "item 0 3");
        sentence(27, "as the nearest float: the last that is exact, and ties to the even one").after("sheet 0 1 5")
            .due(1, "put 0 0 16777215").due(1, "put 0 1 16777216").due(1, "put 0 2 16777217").due(1, "put 0 3 16777219")
            .due(1, "put 0 4 -16777219").due(0x49FFFFFF, "item 0 0").due(0x4A000000, "item 0 1").due(0x4A000000, "item 0 2")
            .due(0x4A000002, "item 0 3").due(0xCA000002, "item 0 4");
        for (int shift = 0; shift < 31; shift++) {
            int v = 1 << shift;
            sentence(27, "of floats: about 2 ^ " + shift).after("sheet 0 1 4").due(1, "put 0 0 " + v).due(1, "put 0 1 " + (v - 1))
                .due(1, "put 0 2 " + (v + 1)).due(1, "put 0 3 " + -v).due(bits((float) v / 8f), "item 0 0")
                .due(bits((float) (v - 1) / 8f), "item 0 1").due(bits((float) (v + 1) / 8f), "item 0 2")
                .due(bits((float) -v / 8f), "item 0 3");
        }
    }

    private static void item() {
        sentence(28, "BAD: no such SHEET, as told of longs").after("sheet 0 0 1", "sheet 3 0 1")
            .each(LONG + BAD, "item _ 0", NO_SHEETS).each(0, "item _ 0", 0, 3).each(LONG + BAD, "item _ 9", NO_SHEETS);
        sentence(28, "-11: it is missing, as told of longs").each(LONG + MISSING, "item 0 _", -1, 0, 1, 40, MIN, MAX)
            .after("sheet 0 0 1").due(0, "item 0 0");
        for (int sort = 0; sort < 2; sort++) {
            sentence(28, "-12: a place outside, as told of longs, of sort " + sort)
                .after("sheet 0 " + sort + " 3", "put 0 0 8", "put 0 2 16")
                .each(LONG + OUTSIDE, "item 0 _", -1, 3, 4, 39, 40, MIN, MAX).due(sort == 0 ? 8 : bits(1f), "item 0 0")
                .due(sort == 0 ? 16 : bits(2f), "item 0 2");
            sentence(28, "-12: of a row of 40, as told of longs, of sort " + sort).after("sheet 0 " + sort + " 40")
                .each(LONG + OUTSIDE, "item 0 _", -1, 40, 41, MIN, MAX).due(0, "item 0 39");
            sentence(28, "-12: of a row of none, as told of longs, of sort " + sort).after("sheet 0 " + sort + " 0")
                .each(LONG + OUTSIDE, "item 0 _", -1, 0, 1, MIN, MAX);
        }
        sentence(28, "as a long: an item as small as a refusal of ints is none")
            .after("sheet 0 0 4", "put 0 0 -2", "put 0 1 -11", "put 0 2 -12", "put 0 3 MIN").due(-2, "item 0 0")
            .due(-11, "item 0 1").due(-12, "item 0 2").due(-2147483648L, "item 0 3");
        sentence(28, "as a long: of floats below 0 the int of its 32 bits is below 0").after("sheet 0 1 1", "put 0 0 -8")
            .due(-1082130432L, "item 0 0");
    }

    // ---- promise 29

    private static void copyNumbers() {
        sentence(29, "BAD: no such SHEET").after("sheet 0 0 1", "sheet 3 0 1", "put 0 0 7").each(BAD, "copy _ 0 0 0 1", NO_SHEETS)
            .each(BAD, "copy 0 0 _ 0 1", NO_SHEETS).due(1, "copy 0 0 3 0 1").due(7, "item 3 0").due(1, "copy 3 0 0 0 1");
        sentence(29, "-11: it is missing: either").after("sheet 0 0 1").due(MISSING, "copy 0 0 1 0 1")
            .due(MISSING, "copy 1 0 0 0 1").due(MISSING, "copy 1 0 2 0 1").due(MISSING, "copy 1 0 1 0 1")
            .due(MISSING, "copy 1 0 1 0 0").due(1, "copy 0 0 0 0 1");
        sentence(29, "-13: they are of unlike sorts").after("sheet 0 0 1", "sheet 1 1 1").due(UNLIKE, "copy 0 0 1 0 1")
            .due(UNLIKE, "copy 1 0 0 0 1").due(UNLIKE, "copy 0 0 1 0 0").after("sheet 1 0 1").due(1, "copy 0 0 1 0 1")
            .after("sheet 0 1 1", "sheet 1 1 1").due(1, "copy 0 0 1 0 1");
        sentence(29, "BAD, then -11: the first that is named").due(BAD, "copy 0 0 4 0 1").due(BAD, "copy 4 0 0 0 1")
            .due(BAD, "copy 0 0 -1 0 -1").due(BAD, "copy -1 0 0 0 -1").due(MISSING, "copy 0 0 0 0 -1");
        sentence(29, "-11, then -13: a missing one is of no sort").after("sheet 0 0 1", "sheet 1 1 1")
            .due(MISSING, "copy 0 0 2 0 1").due(MISSING, "copy 2 0 1 0 1").due(MISSING, "copy 1 -1 2 0 9");
        sentence(29, "-13, then -12: the first that is named").after("sheet 0 0 1", "sheet 1 1 1").due(UNLIKE, "copy 0 0 1 0 -1")
            .due(UNLIKE, "copy 0 -1 1 0 1").due(UNLIKE, "copy 0 0 1 9 1").due(UNLIKE, "copy 1 0 0 0 2");
    }

    private static void copyOutside() {
        Sentence from = after(after(sentence(29, "-12: from item i on"), 0, 1, 2, 3), 1, 0, 0, 0, 0, 0);
        from.due(3, "copy 0 0 1 0 3").due(OUTSIDE, "copy 0 0 1 0 4").due(OUTSIDE, "copy 0 1 1 0 3").due(2, "copy 0 1 1 0 2")
            .due(1, "copy 0 2 1 0 1").due(OUTSIDE, "copy 0 3 1 0 1").due(OUTSIDE, "copy 0 -1 1 0 1")
            .due(OUTSIDE, "copy 0 -1 1 0 3").each(OUTSIDE, "copy 0 _ 1 0 1", MIN, MAX)
            .each(OUTSIDE, "copy 0 _ 1 0 MAX", MIN, -1, 1, MAX);
        Sentence to = after(after(sentence(29, "-12: to item j on"), 0, 1, 2, 3, 4, 5), 1, 0, 0, 0);
        to.due(3, "copy 0 0 1 0 3").due(OUTSIDE, "copy 0 0 1 0 4").due(OUTSIDE, "copy 0 0 1 1 3").due(2, "copy 0 0 1 1 2")
            .due(1, "copy 0 0 1 2 1").due(OUTSIDE, "copy 0 0 1 3 1").due(OUTSIDE, "copy 0 0 1 -1 1")
            .due(OUTSIDE, "copy 0 0 1 -1 3").each(OUTSIDE, "copy 0 0 1 _ 1", MIN, MAX)
            .each(OUTSIDE, "copy 0 0 1 _ MAX", MIN, -1, 1, MAX);
        after(after(sentence(29, "-12 (also with n below 0)"), 0, 1, 2, 3), 1, 4, 5, 6)
            .each(OUTSIDE, "copy 0 0 1 0 _", -1, -2, MIN).each(OUTSIDE, "copy 0 2 1 2 _", -1, -2, MIN).due(0, "copy 0 0 1 0 0");
        after(after(sentence(29, "n numbers: none, up to the rows' ends"), 0, 1, 2, 3), 1, 4, 5).due(0, "copy 0 0 1 0 0")
            .due(0, "copy 0 3 1 2 0").due(OUTSIDE, "copy 0 4 1 2 0").due(OUTSIDE, "copy 0 3 1 3 0")
            .due(OUTSIDE, "copy 0 -1 1 0 0").due(OUTSIDE, "copy 0 0 1 -1 0").due(4, "item 1 0").due(5, "item 1 1");
        sentence(29, "n numbers: none of rows of none").after("sheet 0 1 0", "sheet 1 1 0").due(0, "copy 0 0 1 0 0")
            .due(OUTSIDE, "copy 0 0 1 0 1").due(OUTSIDE, "copy 0 1 1 0 0");
        sentence(29, "n numbers: all 40").after("sheet 0 0 40", "sheet 1 0 40", "put 0 0 7", "put 0 39 8")
            .due(OUTSIDE, "copy 0 0 1 0 41").due(40, "copy 0 0 1 0 40").due(7, "item 1 0").due(8, "item 1 39")
            .due(39, "copy 0 1 1 0 39").due(8, "item 1 38").due(8, "item 1 39").due(OUTSIDE, "copy 0 1 1 0 40")
            .due(OUTSIDE, "copy 0 0 1 1 40");
    }

    private static void copyRows() {
        row(after(after(sentence(29, "from item i on, come to another one's item j on: no others"), 0, 1, 2, 3, 4), 1, 5, 6, 7, 8)
            .due(2, "copy 0 1 1 2 2"), 1, 5, 6, 2, 3).due(1, "item 0 0").due(2, "item 0 1").due(3, "item 0 2");
        row(after(sentence(29, "(as they were): in one row, up"), 0, 1, 2, 3, 4, 5).due(4, "copy 0 0 0 1 4"), 0, 1, 1, 2, 3, 4);
        row(after(sentence(29, "(as they were): in one row, down"), 0, 1, 2, 3, 4, 5).due(4, "copy 0 1 0 0 4"), 0, 2, 3, 4, 5, 5);
        row(after(sentence(29, "(as they were): in one row, where they are"), 0, 1, 2, 3).due(3, "copy 0 0 0 0 3"), 0, 1, 2, 3);
        row(sentence(29, "(as they were): floats").after("sheet 0 1 2", "sheet 1 1 2", "put 0 0 -1", "put 0 1 MAX")
            .due(2, "copy 0 0 1 0 2"), 1, bits(-0.125f), bits(268435456f));
        Sentence later = after(after(sentence(29, "numbers come: later ones don't follow"), 0, 1, 2), 1, 3, 4)
            .due(2, "copy 0 0 1 0 2").after("put 0 0 9");
        row(later, 1, 1, 2).due(9, "item 0 0");
    }
}
