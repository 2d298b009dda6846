/** A small town that a winter comes over: how the class is used. README.md tells what this prints. */
public final class Winter {
    public static void main(String[] args) {
        ShieldLine town = new ShieldLine();

        // Three people come to the common; each call answers the number of the one who came.
        int ann = town.person(0);
        int ben = town.person(14);
        int cid = town.person(35);

        // Ann cares for Ben, Ben for Cid; for Ann nobody cares.
        town.cares(ann, ben);
        town.cares(ben, cid);
        System.out.println("for whom nobody cares (bits): " + town.cared(0));

        // The law: what is given, less by a third of the way, and more from him who has plenty.
        for (char letter : "s>30?g+2;g-d/3".toCharArray()) town.feed(letter);
        System.out.println("the law is taken: " + town.law());
        System.out.println("from Ann comes: " + town.comes(ann));

        // In thought: nothing of it happens.
        System.out.println("Cid behind ten days: " + town.later(10, cid));
        System.out.println("who lacks first: " + town.first(-1) + ", behind days: " + town.first(ann));
        System.out.println("fewest cares to change: " + town.mended(-1) + ", Cid cares then for: " + town.mended(cid));

        // In deed.
        town.cares(cid, ann);
        System.out.println("how many lack behind a day: " + town.day());
        System.out.println("Ann gives Ben five, and has: " + town.gives(ann, ben, 5));

        // Numbers are changed by mend(), which answers what they were; that can be undone.
        System.out.println("the wind was: " + town.mend(0, 5, 9) + ", is: " + town.of(0, 5));
        System.out.println("may still be undone: " + town.undo() + ", the wind is: " + town.of(0, 5));

        // What is not as said is answered by a refusal, and changes nothing.
        System.out.println("place 36 is BAD: " + (town.person(36) == ShieldLine.BAD));
        System.out.println("Ann for herself is VOID: " + (town.cares(ann, ann) == ShieldLine.VOID));

        // What was told of Cid's stores lies as bytes on shelf 0: the first day that is not so.
        town.row(0, 0, 2);
        town.put(0, 0, town.of(cid, 3));
        town.put(0, 1, 99);
        System.out.println("told wrongly at: " + town.judge(0, cid));
    }
}
