/** Two shops, replicas 0 and 1, keep one shopping list and one till, and hear of each other late. */
public final class Example {
    private static final int SET = 1, COUNT = 2;
    private static final int SHOP = 0, LIST = 0, TILL = 1;
    private static final int WHOLE = 0, NEWS = 1;

    public static void main(String[] args) {
        JoinedStores x = new JoinedStores();
        x.kind(SHOP, LIST, SET);
        x.kind(SHOP, TILL, COUNT);

        show("add: the new dot's number", x.add(0, SHOP, LIST, 5));
        show("add: the next one's", x.add(0, SHOP, TILL, 70));
        show("send: the message's number", x.send(0, 1, NEWS));
        show("come: dots heard more", x.come(0));
        show("worth of the till at 1", x.worth(1, SHOP, TILL));

        // What is added wins over who takes away without having heard of it.
        show("take at 1: gone", x.take(1, SHOP, LIST, 5));
        show("add at 0 meanwhile", x.add(0, SHOP, LIST, 5));
        x.send(1, 0, NEWS);
        show("come: nothing new is heard", x.come(0));
        show("worth of the list at 0", x.worth(0, SHOP, LIST));
        show("has 5 at 0", x.has(0, SHOP, LIST, 5));

        // What would be, without doing it.
        x.send(0, 1, NEWS);
        x.send(0, 1, WHOLE);
        show("met: the list, if all met", x.met(SHOP, LIST));
        show("needs: messages for 1 to tell it", x.needs(1, SHOP, LIST, 1, 0));
        show("needs: which, as bits", x.needs(1, SHOP, LIST, 1, 1));
        show("apart: 0 is ahead of 1", x.apart(0, 1, 0));
        show("chance, above the line", x.chance(7, 8, 0));
        show("chance, below the line", x.chance(7, 8, 1));

        // What was told: a sheet takes it down, and is read back.
        show("film: numbers taken down", x.film(0, 0, SHOP, 2));
        show("item 1: the till", x.item(0, 1));
        show("tells: replicas at which it is so", x.tells(0, 1, SHOP, 1));
        show("tells: messages that bring it", x.tells(0, 1, SHOP, 3));

        show("image: messages that wait", x.image());
        x.reset(0, SHOP);
        show("worth of the till at 0, reset", x.worth(0, SHOP, TILL));
        show("back: messages that wait", x.back());
        show("worth of the till at 0, back", x.worth(0, SHOP, TILL));

        // A refused call changes nothing and answers a number of its own.
        show("no replica 4: BAD", x.add(4, SHOP, LIST, 5));
        show("the same of a call of longs", x.worth(4, SHOP, LIST));
        show("sheet 3 is missing", x.put(3, 0, 1));
    }

    private static void show(String what, long answer) {
        System.out.println(what + " = " + answer);
    }
}
