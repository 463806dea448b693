/** What the document says of refusals, nodes and links, and promises 1 to 6. */
final class NetEdges {
    private NetEdges() {
    }

    static void hold() {
        refusals();
        nodes();
        numberOfLinks();
        betweenTwoNodes();
        delays();
        leastFreeNumber();
        neighbours();
        newObject();
        link();
        cut();
        delay();
        ofLink();
    }

    private static void refusals() {
        // RefusalTest and GridTest hold that refusals change nothing, for every call.
        Sentences.hold("UNKNOWN (there is no such NODE, LINK, WALKER)", """
            neighbours 8 = -1
            cut 0 = -1
            walker 0 0 = -1
            """);
        Sentences.hold("OUTSIDE (another number is not as told)", """
            many 8 = -2
            floor 101 = -2
            """);
        Sentences.hold("STATE (as told), FULL", Sentences.links(16) + """
            link 7 7 5 = -3
            link 6 7 5 = -4
            """);
        Sentences.hold("they change nothing", """
            link 0 1 61 = -2
            many 0 = 0
            link 0 1 5 = 0
            link 1 0 9 = -3
            ofLink 0 2 = 5
            delay 0 61 = -2
            ofLink 0 2 = 5
            floor 101 = -2
            floor 20 = 20
            gain 1001 = -2
            gain 300 = 300
            send 3 0 1 = -2
            send 0 0 0 = -3
            many 7 = 0
            many 4 = 0
            ticks 201 = -2
            many 5 = 0
            seed 1 = 1
            """);
        Sentences.hold("NONE is -9.", """
            share 0 1 2 = -9
            send 0 0 1 = -9
            noted 0 1 1 = -9
            noted 0 1 2 = -9
            learnt 0 1 0 = -9
            shortest 0 1 = -9
            """);
        Sentences.hold("Sets of NODES are told as bits (bit k for NODE k).", """
            link 7 0 5
            neighbours 7 = 1
            neighbours 0 = 128
            learnt 7 0 2 = 129
            """);
    }

    private static void nodes() {
        Sentences.hold("NODES 0 .. 7.", """
            neighbours -1 = -1
            neighbours 0 = 0
            neighbours 7 = 0
            neighbours 8 = -1
            neighbours 32 = -1            # a shift by it would be one by 0
            neighbours 2147483647 = -1
            neighbours -2147483648 = -1
            link -1 7 5 = -1
            link 0 8 5 = -1
            link 0 7 5 = 0
            """);
    }

    private static void numberOfLinks() {
        Sentences.hold("LINKS, 16 at most", Sentences.links(15) + """
            many 0 = 15
            link 6 7 5 = 15
            many 0 = 16
            link 5 7 5 = -4
            many 0 = 16
            neighbours 5 = 3
            cut 7 = 0
            link 5 7 5 = 7
            link 1 2 5 = -4
            """);
    }

    private static void betweenTwoNodes() {
        Sentences.hold("each between two NODES (no two of the same ones)", """
            link 3 3 5 = -3
            link 2 5 5 = 0
            link 2 5 6 = -3
            link 5 2 6 = -3
            many 0 = 1
            cut 0 = 0
            link 5 2 6 = 0
            """);
    }

    private static void delays() {
        Sentences.hold("with a DELAY (1 .. 60)", """
            link 0 1 -2147483648 = -2
            link 0 1 -1 = -2
            link 0 1 0 = -2
            link 0 1 61 = -2
            link 0 1 2147483647 = -2
            many 0 = 0
            link 0 1 1 = 0
            link 0 2 60 = 1
            ofLink 0 2 = 1
            ofLink 1 2 = 60
            """);
    }

    private static void leastFreeNumber() {
        Sentences.hold("a LINK has the least number that is free as it comes", Sentences.links(16) + """
            cut 15
            cut 0
            cut 8
            link 6 7 5 = 0
            link 5 7 5 = 8
            link 5 6 5 = 15
            ofLink 0 0 = 6
            ofLink 8 0 = 5
            """);
    }

    private static void neighbours() {
        Sentences.hold("NEIGHBOURS of a NODE are those to which it has a LINK.",
            "neighbours 0 = 0\n" + Sentences.each(1, 7, "link 0 * 5") + """
            neighbours 0 = 254
            cut 6
            neighbours 0 = 126
            neighbours 7 = 0
            """, Sentences.each(0, 6, "link 7 * 5") + "neighbours 7 = 127\n");
        Sentences.hold("The set of NEIGHBOURS of a NODE. UNKNOWN.", """
            neighbours -1 = -1
            neighbours 8 = -1
            link 3 7 5
            neighbours 3 = 128
            neighbours 7 = 8
            """);
    }

    private static void newObject() {
        Sentences.hold("No LINKS, no WALKERS, time 0.",
            Sentences.each(0, 7, "many * = 0") + Sentences.each(0, 15, "ofLink * 0 = -1")
            + Sentences.each(0, 11, "walker * 0 = -1") + Sentences.each(0, 7, "neighbours * = 0")
            + "right = 0\nfade 1000 = 0\nticks 0 = 0\n");
    }

    private static void link() {
        Sentences.hold("A LINK comes: its number. UNKNOWN: a NODE; OUTSIDE: DELAY; STATE: the two NODES "
            + "are one, they have a LINK already; FULL.",
            """
            link 8 8 0 = -1
            link -1 -1 61 = -1
            link 0 8 0 = -1
            link 0 0 0 = -2               # ahead of STATE
            link 0 0 61 = -2
            link 0 0 1 = -3
            link 7 7 60 = -3
            link 7 0 60 = 0
            link 7 0 61 = -2
            link 7 0 60 = -3
            """, Sentences.links(16) + """
            link 6 8 5 = -1               # all ahead of FULL
            link 8 8 5 = -1
            link 6 7 0 = -2
            link 6 7 61 = -2
            link 6 6 5 = -3
            link 1 0 5 = -3
            link 6 7 1 = -4
            link 6 7 60 = -4
            """);
    }

    private static void cut() {
        Sentences.hold("A LINK goes: how many WALKERS are LOST by that. UNKNOWN.",
            """
            cut 0 = -1
            link 0 1 60 = 0
            cut -1 = -1
            cut 1 = -1
            cut 15 = -1
            cut 16 = -1
            cut -2147483648 = -1
            cut 0 = 0                     # no walkers on it
            cut 0 = -1
            many 4 = 0
            """, "link 0 1 60 = 0\n" + Sentences.times(12, "send 0 0 1") + """
            cut 0 = 12
            many 1 = 0
            many 4 = 12
            """, Sentences.links(16) + """
            cut 15 = 0
            cut 15 = -1
            many 0 = 15
            """);
    }

    private static void delay() {
        Sentences.hold("DELAY of a LINK becomes v (for those who begin on it from now on): what it was. "
            + "UNKNOWN; OUTSIDE.", """
            delay 0 5 = -1
            link 0 1 30 = 0
            delay 0 0 = -2
            delay 0 61 = -2
            delay 0 -2147483648 = -2
            delay 0 2147483647 = -2
            delay 1 61 = -1               # ahead of OUTSIDE
            delay 15 5 = -1
            delay 16 5 = -1
            delay -1 0 = -1
            delay 0 1 = 30
            delay 0 60 = 1
            send 0 0 1 = 0
            delay 0 1 = 60
            walker 0 6 = 60               # it began before
            send 0 0 1 = 1
            walker 1 6 = 2
            cut 0 = 2
            delay 0 5 = -1
            """);
    }

    private static void ofLink() {
        Sentences.hold("Of a LINK: 0 its lesser NODE, 1 the greater one, 2 DELAY, 3 how many WALKERS that "
            + "go OUT are on it, 4 of those that come BACK. UNKNOWN; OUTSIDE.",
            """
            ofLink 0 0 = -1
            ofLink 0 5 = -1               # ahead of OUTSIDE
            link 7 0 60 = 0
            ofLink 0 -1 = -2
            ofLink 0 0 = 0
            ofLink 0 1 = 7
            ofLink 0 2 = 60
            ofLink 0 3 = 0
            ofLink 0 4 = 0
            ofLink 0 5 = -2
            ofLink 1 0 = -1
            ofLink 15 0 = -1
            ofLink 16 0 = -1
            ofLink -1 -1 = -1
            cut 0 = 0
            ofLink 0 0 = -1
            """, allAtOnce() + """
            ofLink 0 3 = 12
            ofLink 0 4 = 0
            ticks 59 = 0
            ofLink 0 3 = 12
            ticks 1 = 0
            ofLink 0 3 = 0
            ofLink 0 4 = 12
            ticks 1 = 12
            ofLink 0 4 = 0
            """);
    }

    /** Twelve walkers that come to their aim at time 60, since each finds a shorter delay. */
    static String allAtOnce() {
        StringBuilder lines = new StringBuilder("link 0 1 60 = 0\n");
        for (int n = 0; n < 12; n++) {
            lines.append("delay 0 ").append(60 - n).append("\nsend 0 0 1 = ").append(n).append('\n');
        }
        return lines.toString();
    }
}
