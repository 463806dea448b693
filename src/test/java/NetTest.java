/** Promises 1 to 6: the new object, links and their delays. */
public final class NetTest {
    private NetTest() {
    }

    public static void main(String[] args) {
        newObject();
        linkNumbersAndEdges();
        linkMakesRowsEvenAndDropsNotes();
        linkIsRefusedInOrder();
        cutLosesWalkersBothWays();
        cutMakesRowsEvenAndDropsNotes();
        delayHoldsForThoseWhoBegin();
        ofLinkCountsBothWays();
        neighbours();
        Script.end();
    }

    private static void newObject() {
        StringBuilder lines = new StringBuilder();
        for (int n = 0; n < 8; n++) {
            lines.append("many ").append(n).append(" = 0\n");
            lines.append("neighbours ").append(n).append(" = 0\n");
        }
        lines.append("""
            cut 0 = -1
            walker 0 0 = -1
            floor 20 = 20
            gain 300 = 300
            seed 1 = 1
            right = 0
            """);
        Script.run("1 new object", lines.toString());
    }

    private static void linkNumbersAndEdges() {
        Script.run("2 link", """
            link 0 1 1 = 0
            link 1 2 60 = 1
            link 7 2 5 = 2
            ofLink 0 2 = 1
            ofLink 1 2 = 60
            ofLink 2 0 = 2
            ofLink 2 1 = 7
            cut 1 = 0
            cut 0 = 0
            link 4 5 7 = 0        # the least that is free
            link 1 2 6 = 1
            link 0 1 6 = 3
            many 0 = 4
            """);
    }

    private static void linkMakesRowsEvenAndDropsNotes() {
        Script.run("2 link and rows", """
            link 0 1 5
            link 0 2 5
            link 3 4 5
            link 3 5 5
            link 1 6 5
            raise 0 7 1 500 = 750
            raise 3 7 4 500 = 750
            raise 1 7 6 500 = 750
            nextDraw 0
            send 0 0 1 = 0
            send 0 2 0 = 1
            ticks 6 = 2
            noted 0 1 0 = 1
            noted 2 0 0 = 1
            link 0 3 5 = 5
            share 0 7 1 = 334
            share 0 7 2 = 333
            share 0 7 3 = 333
            share 3 7 0 = 334
            share 3 7 4 = 333
            share 3 7 5 = 333
            share 1 7 6 = 750     # of neither of the two
            noted 0 1 0 = 0
            noted 0 1 1 = -9
            noted 2 0 0 = 1
            """);
    }

    private static void linkIsRefusedInOrder() {
        StringBuilder full = new StringBuilder();
        for (int a = 0; a < 6; a++) {
            for (int b = a + 1; b < 6; b++) {
                full.append("link ").append(a).append(' ').append(b).append(" 5\n");
            }
        }
        Script.run("2 link refused", full + """
            link 6 7 5 = 15
            many 0 = 16
            link 0 6 5 = -4
            link 1 0 5 = -3       # ahead of FULL
            link 6 6 5 = -3
            link 6 6 0 = -2       # ahead of STATE
            link 0 6 61 = -2
            link 8 0 0 = -1       # ahead of OUTSIDE
            link 0 -1 61 = -1
            many 0 = 16
            cut 3 = 0
            link 0 6 5 = 3
            """);
    }

    private static void cutLosesWalkersBothWays() {
        Script.run("3 cut", """
            link 0 1 5
            link 1 2 5
            cut 2 = -1
            cut -1 = -1
            cut 16 = -1
            send 0 0 1 = 0
            ticks 5 = 0           # 0 comes back from here on
            send 0 0 1 = 1
            send 2 2 1 = 2
            send 1 0 2 = 3
            cut 0 = 3
            cut 0 = -1
            many 0 = 1
            many 1 = 1
            many 4 = 3
            walker 0 0 = -1
            walker 2 0 = 2
            walker 3 0 = -1
            send 0 2 1 = 0        # numbers are free again
            """);
    }

    private static void cutMakesRowsEvenAndDropsNotes() {
        Script.run("3 cut and rows", """
            link 0 1 5
            link 0 2 5
            link 0 3 5
            link 2 3 5
            raise 0 7 2 500
            raise 2 7 3 500 = 750
            nextDraw 0
            send 0 0 1 = 0
            send 0 2 0            # one that stays noted: node 2 has no part in the cut link
            ticks 30
            noted 0 1 0 = 1
            cut 0 = 0
            share 0 7 1 = -9
            share 0 7 2 = 500
            share 0 7 3 = 500
            share 2 7 3 = 750
            noted 0 1 0 = 0
            noted 2 0 0 = 1
            neighbours 1 = 0
            even 1 7 = 0
            raise 3 7 2 500 = 750
            cut 2 = 0             # 3 is the greater node of this one
            share 0 7 2 = 1000
            share 3 7 0 = -9
            share 3 7 2 = 1000
            share 2 7 3 = 750
            """);
    }

    private static void delayHoldsForThoseWhoBegin() {
        Script.run("4 delay", """
            link 0 1 5 = 0
            send 0 0 1 = 0
            walker 0 6 = 5
            delay 0 9 = 5
            delay 0 60 = 9
            delay 0 1 = 60
            delay 0 9 = 1
            walker 0 6 = 5
            send 0 0 1 = 1
            walker 1 6 = 10
            delay 0 0 = -2
            delay 0 61 = -2
            delay 1 0 = -1
            delay 16 5 = -1
            delay -1 5 = -1
            ofLink 0 2 = 9
            shortest 0 1 = 9
            """);
    }

    private static void ofLinkCountsBothWays() {
        Script.run("5 ofLink", """
            link 5 1 5 = 0
            ofLink 0 0 = 1
            ofLink 0 1 = 5
            ofLink 0 2 = 5
            send 0 5 1 = 0
            send 0 1 5 = 1
            ofLink 0 3 = 2
            ofLink 0 4 = 0
            ticks 5 = 0
            ofLink 0 3 = 1
            ofLink 0 4 = 1
            ticks 1 = 1
            ofLink 0 3 = 0
            ofLink 0 4 = 1
            ofLink 0 -1 = -2
            ofLink 0 5 = -2
            ofLink 1 5 = -1
            ofLink -1 0 = -1
            ofLink 16 0 = -1
            """);
    }

    private static void neighbours() {
        Script.run("6 neighbours", """
            link 0 7 5 = 0
            link 3 0 5 = 1
            neighbours 0 = 136
            neighbours 3 = 1
            neighbours 7 = 1
            neighbours 4 = 0
            neighbours 8 = -1
            neighbours -1 = -1
            cut 0 = 0
            neighbours 0 = 8
            neighbours 7 = 0
            """);
    }
}
