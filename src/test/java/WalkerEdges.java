/** What the document says of draws, of walkers and of how they pick, and promises 13, 14, 16, 17. */
final class WalkerEdges {
    private static final String TWO = "link 0 1 60\nlink 0 2 60\n";

    private WalkerEdges() {
    }

    static void hold() {
        time();
        seedWraps();
        upperBits();
        numbersOfWalkers();
        kinds();
        start();
        pickOfTheStrange();
        pickBySum();
        pickOfNothing();
        heed();
        withoutNeighbours();
        seed();
        send();
        walker();
        memory();
    }

    private static void time() {
        Sentences.hold("Time goes by TICKS, from 0 on.", """
            many 5 = 0
            ticks 0 = 0
            many 5 = 0
            ticks 1 = 0
            many 5 = 1
            ticks 200 = 0
            many 5 = 201
            """);
    }

    private static void seedWraps() {
        Sentences.hold("the SEED (an int that wraps; 1 at first) becomes 1103515245 times it and 12345", """
            link 0 1 60
            seed 1 = 1
            send 0 0 1
            seed 0 = 1103527590
            send 0 0 1
            seed -1 = 12345
            send 0 0 1
            seed 2147483647 = -1103502900
            send 0 0 1
            seed -2147483648 = 1043980748 # 2 to the 31st less 1103502900
            send 0 0 1
            seed 2 = -2147471303          # 2 to the 31st and 12345
            send 0 0 1
            seed 1 = -2087924461          # 2207042835 less 2 to the 32nd
            """, """
            link 0 1 60
            send 0 0 1
            send 0 0 1
            seed 1 = -1770082073          # twice, from 1
            many 7 = 2
            """);
    }

    private static void upperBits() {
        // 1 has 768 of the row for 7, and 535 of that for 6.
        String rows = TWO + "floor 0\nraise 0 7 1 536 = 768\nraise 0 6 1 70 = 535\n";
        Sentences.hold("its upper 16 bits, as 0 .. 65535, left of m.",
            rows + drawn(0, 7, 1) + drawn(767, 7, 1) + drawn(768, 7, 2) + drawn(999, 7, 2)
            + drawn(1000, 7, 1) + drawn(32767, 7, 1) + drawn(32768, 7, 2),
            rows + drawn(65534, 6, 1) + drawn(65535, 6, 2) + drawn(65000, 6, 1) + drawn(64999, 6, 2),
            // The lower 16 bits are without weight: these seeds lead to 768 and all the lower bits, or none.
            rows + lowerBits(768 << 16, 2) + lowerBits((768 << 16) - 1, 1) + lowerBits(-1, 1)
            + lowerBits((768 << 16) + 65535, 2));
        Sentences.hold("A DRAW of m (above 0)", """
            floor 0
            link 0 1 60
            link 0 2 5
            raise 0 7 2 998 = 999
            send 0 2 7 = 0
            nextDraw 65535
            ticks 5                       # a draw of 1: nothing is left of any
            walker 0 5 = 1
            many 7 = 2
            """);
    }

    /** A plain walker from 0, sent as the upper bits of the next draw are so. */
    private static String drawn(int upper, int aim, int to) {
        return "nextDraw " + upper + "\nsend 0 0 " + aim + " = 0\nwalker 0 5 = " + to + "\n"
            + "cut " + (to - 1) + " = 1\nlink 0 " + to + " 60 = " + (to - 1) + "\n"
            + "raise 0 7 1 536 = 768\nraise 0 6 1 70 = 535\n";
    }

    private static String lowerBits(int seedThen, int to) {
        return "seed " + Script.seedBefore(seedThen) + "\nsend 0 0 7 = 0\nwalker 0 5 = " + to + "\n"
            + "seed 1 = " + seedThen + "\n"
            + "cut " + (to - 1) + " = 1\nlink 0 " + to + " 60 = " + (to - 1) + "\n"
            + "raise 0 7 1 536 = 768\n";
    }

    private static void numbersOfWalkers() {
        Sentences.hold("WALKERS, 12 at a time at most, numbered by the least number that is free",
            "link 0 1 60\n" + Sentences.each(0, 11, "send 0 0 1 = *") + """
            many 1 = 12
            send 0 0 1 = -4
            many 1 = 12
            many 7 = 12
            ticks 60 = 0                  # one comes back, and is there still
            send 0 0 1 = -4
            ticks 1 = 1
            send 0 0 1 = 0
            send 0 0 1 = -4
            ticks 2 = 2
            send 0 0 1 = 1
            send 0 0 1 = 2
            send 0 0 1 = -4
            """, "link 0 1 60\nlink 2 3 60\nsend 0 2 3 = 0\n" + Sentences.each(1, 4, "send 0 0 1 = *")
            + "send 0 2 3 = 5\n" + Sentences.each(6, 10, "send 0 0 1 = *") + """
            send 0 2 3 = 11
            send 0 0 1 = -4
            cut 1 = 3
            send 0 0 1 = 0
            send 0 0 1 = 5
            send 0 0 1 = 11
            send 0 0 1 = -4
            """);
    }

    private static void kinds() {
        Sentences.hold("each of a kind: 0 PLAIN; 1 HEEDFUL, a PLAIN one; 2 EAGER, a HEEDFUL one", """
            link 0 1 5
            send -1 0 1 = -2
            send 0 0 1 = 0
            send 1 0 1 = 1
            send 2 0 1 = 2
            send 3 0 1 = -2
            walker 0 0 = 0
            walker 1 0 = 1
            walker 2 0 = 2
            """);
        Sentences.hold("with a START and an AIM.", """
            link 0 7 5
            send 0 0 7 = 0
            send 0 7 0 = 1
            walker 0 1 = 0
            walker 0 2 = 7
            walker 1 1 = 7
            walker 1 2 = 0
            """);
    }

    private static void start() {
        Sentences.hold("Its MEMORY: NODES, each with the time at which it came there.", """
            link 0 1 2
            link 1 2 60
            send 0 0 2 = 0
            ticks 62
            memory 0 0 0 = 0
            memory 0 0 1 = 0
            memory 0 1 0 = 1
            memory 0 1 1 = 2
            memory 0 2 0 = 2
            memory 0 2 1 = 62
            memory 0 3 0 = -9
            """);
        Sentences.hold("It goes OUT from its START, where it came as it is sent.", """
            link 7 6 5
            ticks 9
            send 0 7 0 = 0
            memory 0 0 0 = 7
            memory 0 0 1 = 9
            memory 0 1 0 = -9
            walker 0 3 = 0
            walker 0 7 = 1
            """);
    }

    private static void pickOfTheStrange() {
        String path = "floor 0\nlink 0 1 5\nlink 1 2 5\nraise 1 7 0 999 = 999\nsend 0 0 7 = 0\n";
        String ring = "link 0 1 5\nlink 1 2 5\nlink 2 0 5\nnextDraw 0\nsend 0 0 7 = 0\nwalker 0 5 = 1\n"
            + "ticks 5\nwalker 0 5 = 2\n";
        Sentences.hold("At a NODE that is not its AIM it picks a NEIGHBOUR: of those that are not in its "
            + "MEMORY, if there is any, else of all",
            // 2 has 1 of 1000, but 0 is remembered.
            path + "nextDraw 0\nticks 5\nwalker 0 5 = 2\n",
            path + "nextDraw 998\nticks 5\nwalker 0 5 = 2\nticks 5\nwalker 0 5 = 1\n",
            // At 2 both are remembered.
            ring + "nextDraw 499\nticks 5\nwalker 0 5 = 0\nwalker 0 7 = 3\n",
            ring + "nextDraw 500\nticks 5\nwalker 0 5 = 1\nwalker 0 7 = 3\n",
            // Node 0 is one like the others.
            "link 5 0 5\nlink 5 6 5\nnextDraw 499\nsend 0 5 7 = 0\nwalker 0 5 = 0\n",
            // Back at 0 all behind it is forgotten: 1 and 2 are both strange again.
            ring + "nextDraw 499\nticks 5\nnextDraw 499\nticks 5\nwalker 0 5 = 1\nwalker 0 7 = 1\n",
            ring + "nextDraw 499\nticks 5\nnextDraw 500\nticks 5\nwalker 0 5 = 2\nwalker 0 7 = 1\n");
    }

    private static void pickBySum() {
        Sentences.hold("with W their WEIGHTS together, above 0, a DRAW of W, and it is the one, from the "
            + "least on, with whose WEIGHT the sum is greater than that",
            strangeTwo(0, 2), strangeTwo(332, 2), strangeTwo(333, 3), strangeTwo(665, 3),
            strangeTwo(666, 2), strangeTwo(999, 3));
    }

    /** A walker that comes from 1 to 0, where 2 and 3 have 333 each. */
    private static String strangeTwo(int upper, int to) {
        return "link 0 1 5\nlink 0 2 5\nlink 0 3 5\nsend 0 1 7 = 0\nnextDraw " + upper
            + "\nticks 5\nwalker 0 5 = " + to + "\nmany 7 = 2\n";
    }

    private static void pickOfNothing() {
        Sentences.hold("with W 0 the least one (no DRAW)",
            """
            floor 0
            link 3 0 5
            link 0 4 5
            link 0 5 5
            raise 0 7 3 1000 = 1000
            send 0 3 7 = 0
            seed 77
            ticks 5
            walker 0 5 = 4
            many 7 = 1
            seed 77 = 77
            """, """
            floor 0
            link 2 0 5
            link 0 1 60
            raise 0 7 2 998 = 999
            send 1 2 7 = 0
            send 0 1 7 = 1                # on the link from 1 to 0
            many 7 = 2
            ticks 5
            walker 0 5 = 1                # 1 by 2 is nothing
            many 7 = 2
            """);
    }

    private static void heed() {
        String eleven = TWO + Sentences.times(11, "send 0 1 0");
        Sentences.hold("WEIGHT: PLAIN: the SHARE of the ROW for its AIM",
            eleven + "nextDraw 499\nsend 0 0 7 = 11\nwalker 11 5 = 1\n",
            eleven + "nextDraw 500\nsend 0 0 7 = 11\nwalker 11 5 = 2\n");
        // 500 by 12 is 41, and 541 together.
        Sentences.hold("HEEDFUL, EAGER: that by 1 more than how many WALKERS that go OUT are on the LINK "
            + "then, cut down.",
            eleven + "nextDraw 40\nsend 1 0 7 = 11\nwalker 11 5 = 1\n",
            eleven + "nextDraw 41\nsend 1 0 7 = 11\nwalker 11 5 = 2\n",
            eleven + "nextDraw 540\nsend 2 0 7 = 11\nwalker 11 5 = 2\n",
            eleven + "nextDraw 541\nsend 2 0 7 = 11\nwalker 11 5 = 1\n",
            TWO + "nextDraw 499\nsend 1 0 7 = 0\nwalker 0 5 = 1\n",
            TWO + "nextDraw 500\nsend 2 0 7 = 0\nwalker 0 5 = 2\n",
            // One that comes back is not counted.
            TWO + "delay 0 1\nsend 0 1 0 = 0\nticks 1\nofLink 0 4 = 1\n"
            + "nextDraw 499\nsend 1 0 7 = 1\nwalker 1 5 = 1\n");
    }

    private static void withoutNeighbours() {
        Sentences.hold("Without NEIGHBOURS it is LOST", """
            send 0 0 1 = -9
            send 1 0 1 = -9
            send 2 0 1 = -9
            many 1 = 0
            many 4 = 3
            many 7 = 0
            seed 1 = 1
            link 0 1 5
            send 0 2 1 = -9               # others have some
            send 0 0 1 = 0
            many 4 = 4
            """);
    }

    private static void seed() {
        Sentences.hold("SEED becomes v: what it was.", """
            seed 2147483647 = 1
            seed -2147483648 = 2147483647
            seed 0 = -2147483648
            seed -1 = 0
            seed 1 = -1
            many 7 = 0
            """);
    }

    private static void send() {
        Sentences.hold("A WALKER of a kind is sent from a START to an AIM: its number; NONE: it was LOST at "
            + "once. UNKNOWN: a NODE; OUTSIDE: kind; STATE: they are one; FULL.",
            """
            send 3 -1 0 = -1              # ahead of OUTSIDE
            send 0 8 0 = -1
            send -1 0 -1 = -1
            send 0 0 8 = -1
            send 0 8 8 = -1               # ahead of STATE
            send 3 0 0 = -2               # ahead of STATE
            send -1 0 0 = -2
            send -2147483648 0 1 = -2
            send 2147483647 0 1 = -2
            send 0 0 0 = -3               # and not lost
            send 2 7 7 = -3
            many 4 = 0
            send 0 0 1 = -9
            many 4 = 1
            """, "link 0 1 60\n" + Sentences.each(0, 11, "send 1 0 1 = *") + """
            send 0 0 8 = -1               # all ahead of FULL
            send 3 0 1 = -2
            send 0 0 0 = -3
            send 0 0 1 = -4
            send 0 5 1 = -4               # it would be lost at once, but is not sent
            many 4 = 0
            """);
    }

    private static void walker() {
        Sentences.hold("Of a WALKER: 0 kind, 1 START, 2 AIM, 3 whether it goes OUT (0) or comes BACK (1), 4 "
            + "the LINK on which it is, 5 the NODE to which that leads it, 6 when it comes there, 7 how many "
            + "NODES are in its MEMORY, 8 how many LINKS it began OUT. UNKNOWN; OUTSIDE.", """
            walker 0 0 = -1
            walker 0 9 = -1               # ahead of OUTSIDE
            link 3 4 60 = 0
            link 0 7 60 = 1
            send 2 7 0 = 0
            walker 0 -1 = -2
            walker 0 0 = 2
            walker 0 1 = 7
            walker 0 2 = 0
            walker 0 3 = 0
            walker 0 4 = 1
            walker 0 5 = 0
            walker 0 6 = 60
            walker 0 7 = 1
            walker 0 8 = 1
            walker 0 9 = -2
            walker -1 0 = -1
            walker 1 0 = -1
            walker 11 0 = -1
            walker 12 0 = -1
            ticks 60
            walker 0 2 = 0
            walker 0 3 = 1
            walker 0 4 = 1
            walker 0 5 = 7
            walker 0 6 = 61
            walker 0 7 = 2
            walker 0 8 = 1
            ticks 1 = 1
            walker 0 0 = -1
            walker 0 -1 = -1
            """, "link 0 1 60\n" + Sentences.times(12, "send 0 0 1") + "walker 11 6 = 71\nwalker 12 6 = -1\n");
    }

    private static void memory() {
        StringBuilder path = new StringBuilder();
        for (int i = 0; i < 7; i++) {
            path.append("link ").append(i).append(' ').append(i + 1).append(" 1\n");
        }
        Sentences.hold("Of the MEMORY of a WALKER: NODE k (what 0), the time there (1); NONE: it has not so "
            + "many. UNKNOWN; OUTSIDE: k (0 .. 7), what.", path + """
            memory 0 0 0 = -1
            memory 0 8 2 = -1             # ahead of OUTSIDE
            send 0 0 7 = 0
            memory -1 0 0 = -1
            memory 1 0 0 = -1
            memory 11 -1 0 = -1
            memory 12 0 0 = -1
            memory 0 -1 0 = -2
            memory 0 8 0 = -2
            memory 0 0 -1 = -2
            memory 0 0 2 = -2
            memory 0 7 2 = -2             # ahead of NONE
            memory 0 0 0 = 0
            memory 0 0 1 = 0
            memory 0 1 0 = -9
            memory 0 7 1 = -9
            ticks 6 = 0
            memory 0 6 0 = 6
            memory 0 6 1 = 6
            memory 0 7 0 = -9
            memory 0 7 1 = -9
            ticks 1 = 0
            walker 0 7 = 8
            memory 0 7 0 = 7              # all that there are
            memory 0 7 1 = 7
            memory 0 8 0 = -2
            """);
    }
}
