/** Boundary cases of promises 11 to 15: messages that wait, come, are lost, and are looked into. */
public final class BoundariesOfMessagesTest extends Boundaries {
    private static final int[] NO_MESSAGES = {-1, 0, 1, 5, 6, MIN, MAX};

    public static void main(String[] args) {
        sendNumbers();
        sendWhole();
        sendParcel();
        sendFull();
        come();
        comeNumbers();
        comeOrder();
        lose();
        twice();
        letter();
        calls();
        Sentence.end();
    }

    // ---- promise 11

    private static void sendNumbers() {
        sentence(11, "from one: REPLICAS 0 .. 3").each(BAD, "send _ 1 0", NO_REPLICAS).each(BAD, "send _ 1 1", NO_REPLICAS)
            .due(0, "send 0 1 0").due(1, "send 3 1 0").due(0, "letter 0 0").due(3, "letter 1 0");
        sentence(11, "to another REPLICA: 0 .. 3").each(BAD, "send 1 _ 0", NO_REPLICAS).each(BAD, "send 1 _ 1", NO_REPLICAS)
            .due(0, "send 1 0 0").due(1, "send 1 3 0").due(0, "letter 0 1").due(3, "letter 1 1");
        sentence(11, "to another REPLICA: not to itself").after("add 0 0 0 5", "add 1 0 0 5", "add 2 0 0 5", "add 3 0 0 5")
            .due(BAD, "send 0 0 0").due(BAD, "send 1 1 0").due(BAD, "send 2 2 0").due(BAD, "send 3 3 0").due(BAD, "send 0 0 1")
            .due(BAD, "send 1 1 1").due(BAD, "send 2 2 1").due(BAD, "send 3 3 1");
        sentence(11, "BAD: what 0, 1").after("add 0 0 0 5").each(BAD, "send 0 1 _", -1, 2, MIN, MAX).due(0, "send 0 1 0")
            .due(1, "send 0 1 1").each(1, "letter _ 2", 0, 1);
        sentence(11, "its number: numbered from 0 as they wait").due(0, "send 0 1 0").due(1, "send 1 0 1").due(2, "send 2 3 0")
            .due(1, "lose 1").due(2, "send 3 2 0").due(0, "come 0").due(2, "send 0 2 0").due(1, "lose 0").due(1, "lose 0")
            .due(1, "lose 0").due(0, "send 1 2 0");
    }

    private static void sendWhole() {
        sentence(11, "its sender's whole STORE: of no DOTS").due(0, "send 0 1 0").due(0, "letter 0 2").due(0, "letter 0 3");
        sentence(11, "its sender's whole STORE: all that it HEARD, ALIVE or not, by whomever")
            .after("add 0 0 0 5", "add 0 0 0 6", "take 0 0 0 6", "add 1 0 0 7", "send 1 0 1", "come 0").due(0, "send 0 2 0")
            .due(3, "letter 0 2").due(2, "letter 0 3");
        sentence(11, "its sender's whole STORE: its PARCEL is as it was").after("add 0 0 0 5").due(0, "send 0 1 0")
            .due(1, "send 0 1 1").due(1, "letter 1 2").due(1, "letter 1 3");
        sentence(11, "its sender's whole STORE, as it was then").after("add 0 0 0 5").due(0, "send 0 1 0")
            .after("add 0 0 0 6", "take 0 0 0 5").due(1, "letter 0 2").due(1, "letter 0 3");
        sentence(11, "its sender's STORE is as it was").after("add 0 0 0 5", "add 0 0 0 6", "take 0 0 0 6").due(0, "send 0 1 0")
            .due(1, "send 0 1 1").due(0b11, "told 0 0 0").due(0b01, "told 0 0 1");
    }

    private static void sendParcel() {
        sentence(11, "its PARCEL for that one, which has no DOTS then").after("add 0 0 0 5", "add 0 0 0 6").due(0, "send 0 1 1")
            .due(2, "letter 0 2").due(2, "letter 0 3").due(1, "send 0 1 1").due(0, "letter 1 2").due(0, "letter 1 3");
        for (int to = 1; to < 4; to++) {
            Sentence one = sentence(11, "its PARCEL for that one: those for others are as they were: " + to).after("add 0 0 0 5")
                .due(0, "send 0 " + to + " 1");
            for (int other = 1; other < 4; other++) {
                one.after("send 0 " + other + " 1").due(other == to ? 0 : 1, "letter " + other + " 2");
            }
        }
        sentence(11, "its PARCEL: what is new since the last").after("add 0 0 0 5", "send 0 1 1", "add 0 0 0 6")
            .due(1, "send 0 1 1").due(1, "letter 1 2").after("take 0 0 0 5").due(2, "send 0 1 1").due(1, "letter 2 2")
            .due(0, "letter 2 3");
        sentence(11, "its PARCEL: what came from others is not in it").after("add 1 0 0 5", "send 1 0 1", "come 0")
            .due(0, "send 0 2 1").due(0, "letter 0 2").after("take 0 0 0 5").due(1, "send 0 2 1").due(1, "letter 1 2")
            .due(0, "letter 1 3");
        sentence(11, "its PARCEL: new, then GONE").after("add 0 0 0 5", "add 0 0 0 6", "reset 0 0", "add 0 0 0 7")
            .due(0, "send 0 1 1").due(3, "letter 0 2").due(1, "letter 0 3");
        sentence(11, "its PARCEL: all 31").times(31, "add 0 0 0 5").due(0, "send 0 3 1").due(31, "letter 0 2")
            .due(31, "letter 0 3").due(31, "come 0").due(ALL_31, "told 3 0 1");
        sentence(11, "its PARCEL: all 124, as far as it took them away").times(31, "add 0 0 0 5").times(31, "add 1 0 0 5")
            .times(31, "add 2 0 0 5").times(31, "add 3 0 0 5")
            .after("send 1 0 1", "send 2 0 1", "send 3 0 1", "come 0", "come 0", "come 0", "take 0 0 0 5").due(0, "send 0 1 1")
            .due(124, "letter 0 2").due(0, "letter 0 3").due(93, "come 0");
        sentence(11, "of a PARCEL too: what its sender had HEARD then is all of its STORE")
            .after("add 0 0 0 5", "send 0 1 1", "lose 0").due(0, "send 0 1 1").due(0, "come 0").due(1, "told 1 0 10")
            .due(0, "told 1 0 0");
    }

    private static void sendFull() {
        Sentence six = sentence(11, "FULL: 6 wait").after("add 0 0 0 5");
        for (int i = 0; i < 6; i++) {
            six.due(i, "send 1 2 0");
        }
        six.due(FULL, "send 1 2 0").due(FULL, "send 0 3 1").due(6, "count 1").due(1, "lose 5").due(5, "send 0 3 1")
            .due(1, "letter 5 2").due(FULL, "send 0 2 1");
        sentence(11, "FULL: also of those waiting twice").after("send 0 1 0").times(5, "twice 0").due(FULL, "send 0 1 0")
            .due(0, "come 0").due(5, "send 0 1 0");
        sentence(11, "FULL: the PARCEL keeps its DOTS").after("add 0 0 0 5").times(6, "send 1 2 0").due(FULL, "send 0 1 1")
            .after("lose 0").due(5, "send 0 1 1").due(1, "letter 5 2");
        sentence(11, "BAD, then FULL: the first that is named").times(6, "send 1 2 0").due(BAD, "send 4 1 0")
            .due(BAD, "send -1 1 0").due(BAD, "send 1 4 0").due(BAD, "send 1 -1 0").due(BAD, "send 1 1 0").due(BAD, "send 1 2 2")
            .due(BAD, "send 1 2 -1");
    }

    // ---- promise 12

    private static void come() {
        sentence(12, "how many DOTS its receiver has HEARD more by it: of no DOTS 0").due(0, "send 0 1 0").due(0, "come 0")
            .due(0, "count 1");
        sentence(12, "how many more: those HEARD before don't count")
            .after("add 0 0 0 5", "send 0 1 0", "add 0 0 0 6", "send 0 1 0").due(1, "come 0").due(1, "come 0");
        sentence(12, "how many more: twice the same is 0").after("add 0 0 0 5", "add 0 0 0 6", "send 0 1 0", "twice 0")
            .due(2, "come 1").due(0, "come 0").due(0b11, "told 1 0 1");
        sentence(12, "how many more: HEARD, also what isn't ALIVE").after("add 0 0 0 5", "take 0 0 0 5", "send 0 1 0")
            .due(1, "come 0").due(1, "told 1 0 0").due(0, "told 1 0 1");
        sentence(12, "how many more: all 93 of three others").times(31, "add 0 0 0 5").times(31, "add 1 0 0 5")
            .times(31, "add 2 0 0 5").after("send 0 2 0", "send 1 2 0").due(31, "come 0").due(31, "come 0").due(0, "send 2 3 0")
            .due(93, "come 0").due(ALL_31, "told 3 0 0").due(ALL_31, "told 3 1 0").due(ALL_31, "told 3 2 1").due(0, "told 3 3 0");
        sentence(12, "STORE of to whom it goes, no other's").after("add 0 0 0 5", "send 0 2 0").due(1, "come 0")
            .due(1, "told 2 0 0").each(0, "told _ 0 0", 1, 3);
        sentence(12, "STORE is JOINED: its PARCELS are not").after("add 0 0 0 5", "send 0 2 0").due(1, "come 0")
            .after("send 2 0 1", "send 2 1 1", "send 2 3 1").each(0, "letter _ 2", 0, 1, 2);
        sentence(12, "what one adds wins over who takes away without having HEARD of it")
            .after("kind 0 0 1", "add 0 0 0 5", "send 0 1 1", "come 0", "take 1 0 0 5", "add 0 0 0 5", "send 1 0 1", "send 0 1 1")
            .due(0, "come 0").due(1, "come 0").due(1, "worth 0 0 0").due(1, "worth 1 0 0").due(0b10, "told 0 0 1")
            .due(0b10, "told 1 0 1");
    }

    private static void comeNumbers() {
        sentence(12, "BAD: no such one: none wait").each(BAD, "come _", NO_MESSAGES);
        sentence(12, "BAD: no such one: one waits").after("add 0 0 0 5", "send 0 1 0").each(BAD, "come _", -1, 1, 2, 6, MIN, MAX)
            .due(1, "come 0").due(BAD, "come 0");
        sentence(12, "the last of 6, and none behind it").after("add 0 0 0 5").times(5, "send 1 2 0").after("send 0 3 0")
            .each(BAD, "come _", -1, 6, MIN, MAX).due(1, "come 5").due(BAD, "come 5").due(0, "come 4").due(BAD, "come 4")
            .due(4, "count 1");
    }

    private static final String[] SIX = {"send 0 1 0", "send 0 2 0", "send 0 3 0", "send 1 0 0", "send 2 0 0", "send 3 0 0"};
    private static final int[] SIX_FROM_TO = {1, 2, 3, 10, 20, 30};

    /** Each of six goes by a call, and those behind it become one less. */
    private static void goes(int promise, String call, long want) {
        for (int gone = 0; gone < 6; gone++) {
            Sentence six = sentence(promise, "one that goes makes those behind it one less: " + gone).after(SIX)
                .due(want, call + " " + gone).due(5, "count 1");
            for (int i = 0; i < 5; i++) {
                int which = SIX_FROM_TO[i < gone ? i : i + 1];
                six.due(which / 10, "letter " + i + " 0").due(which % 10, "letter " + i + " 1");
            }
            six.due(BAD, "letter 5 0").due(5, "send 1 3 0").due(1, "letter 5 0").due(3, "letter 5 1").due(FULL, "send 1 3 0");
        }
    }

    private static void comeOrder() {
        goes(12, "come", 0);
        sentence(12, "late and in any order: the STORE is the same")
            .after("add 0 0 0 5", "send 0 1 1", "take 0 0 0 5", "send 0 1 1", "add 0 0 0 6", "send 0 1 1").due(1, "come 2")
            .due(1, "come 1").due(0, "come 0").due(0b11, "told 1 0 0").due(0b10, "told 1 0 1").due(1, "apart 0 1 1");
    }

    // ---- promises 13 and 14

    private static void lose() {
        sentence(13, "BAD: none wait").each(BAD, "lose _", NO_MESSAGES);
        sentence(13, "BAD: one waits").after("send 0 1 0").each(BAD, "lose _", -1, 1, 2, 6, MIN, MAX).due(1, "lose 0")
            .due(BAD, "lose 0");
        sentence(13, "the last of 6, and none behind it").after(SIX).each(BAD, "lose _", -1, 6, MIN, MAX).due(1, "lose 5")
            .due(BAD, "lose 5").due(1, "lose 0").due(BAD, "lose 4").due(4, "count 1");
        sentence(13, "and doesn't come").after("add 0 0 0 5", "send 0 1 0").due(1, "lose 0").due(0, "told 1 0 0")
            .due(0, "told 1 0 10").due(0, "count 1");
        sentence(13, "its PARCEL has no DOTS still").after("add 0 0 0 5", "send 0 1 1").due(1, "lose 0").after("send 0 1 1")
            .due(0, "letter 0 2");
        goes(13, "lose", 1);
    }

    private static void twice() {
        sentence(14, "BAD: none wait").each(BAD, "twice _", NO_MESSAGES);
        sentence(14, "BAD: one waits").after("send 0 1 0").each(BAD, "twice _", -1, 1, 2, 6, MIN, MAX).due(1, "twice 0")
            .due(2, "twice 1").due(BAD, "twice 3");
        sentence(14, "FULL: 5 wait, then 6").after("send 0 1 0", "send 1 2 0", "send 2 3 0", "send 3 0 0", "send 0 2 0")
            .due(5, "twice 4").due(0, "letter 5 0").due(2, "letter 5 1").each(FULL, "twice _", 0, 1, 2, 3, 4, 5).due(6, "count 1")
            .due(1, "lose 0").due(5, "twice 0").due(1, "letter 5 0").due(2, "letter 5 1").due(FULL, "twice 0");
        sentence(14, "BAD, then FULL: the first that is named").after(SIX).each(BAD, "twice _", -1, 6, MIN, MAX)
            .due(FULL, "twice 5");
        sentence(14, "One like it, last").after("add 0 0 0 5", "add 0 0 0 6", "take 0 0 0 6", "send 0 2 1", "send 1 3 0")
            .due(2, "twice 0").due(0, "letter 2 0").due(2, "letter 2 1").due(2, "letter 2 2").due(1, "letter 2 3")
            .due(1, "letter 1 0").due(3, "letter 1 1").due(0, "letter 0 0");
        sentence(14, "waits, too: what its sender had HEARD then, too")
            .after("add 0 0 0 5", "send 0 1 1", "lose 0", "send 0 1 1", "add 0 0 0 6").due(1, "twice 0").after("lose 0")
            .due(0, "come 0").due(1, "told 1 0 10");
        sentence(14, "waits, too: one goes without the other").after("add 0 0 0 5", "send 0 1 1").due(1, "twice 0")
            .due(1, "lose 0").due(1, "count 1").due(1, "come 0").due(1, "told 1 0 0");
    }

    // ---- promise 15

    private static void letter() {
        sentence(15, "BAD: no such MESSAGE: none waits").each(BAD, "letter _ 0", NO_MESSAGES).each(BAD, "letter 0 _", 0, 1, 2, 3);
        sentence(15, "BAD: no such MESSAGE").after("send 0 1 0").each(BAD, "letter _ 0", -1, 1, 2, 6, MIN, MAX)
            .due(0, "letter 0 0");
        sentence(15, "BAD: the last of 6, and none behind it").after(SIX).due(3, "letter 5 0").due(0, "letter 5 1")
            .each(BAD, "letter _ 1", -1, 6, MIN, MAX);
        sentence(15, "BAD: what 0 .. 3").after("add 3 0 0 5", "send 3 2 0").each(BAD, "letter 0 _", -1, 4, MIN, MAX)
            .due(3, "letter 0 0").due(2, "letter 0 1").due(1, "letter 0 2").due(1, "letter 0 3");
        sentence(15, "how many DOTS its STORE has HEARD, that are ALIVE: none").after("send 3 2 0").due(0, "letter 0 2")
            .due(0, "letter 0 3");
        sentence(15, "how many DOTS its STORE has HEARD: all 124").times(31, "add 0 0 0 5").times(31, "add 1 0 0 5")
            .times(31, "add 2 0 0 5").times(31, "add 3 0 1 6")
            .after("send 0 3 0", "send 1 3 0", "send 2 3 0", "come 0", "come 0", "come 0", "send 3 0 0").due(124, "letter 0 2")
            .due(124, "letter 0 3").after("reset 3 0").due(124, "letter 0 3").due(1, "send 3 0 0").due(124, "letter 1 2")
            .due(0, "letter 1 3").due(93, "come 0");
        sentence(15, "that are ALIVE: one of two").after("add 0 0 0 5", "add 0 0 0 6", "take 0 0 0 5", "send 0 1 0")
            .due(2, "letter 0 2").due(1, "letter 0 3");
    }

    // ---- how many calls

    private static void calls() {
        Sentence most = sentence(1, "An object is used for at most 512 calls: the 512th")
            .after("add 0 0 0 5", "send 0 1 0", "twice 0");
        for (int i = 0; i < 254; i++) {
            most.after("twice 0", "lose 0");
        }
        most.last(1, "come 0");
    }
}
