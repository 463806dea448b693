/** What the document says of learnt and shortest ways, and promises 18 to 22. */
final class LearntEdges {
    private static final String STAR = Sentences.each(1, 7, "link 0 * 60");

    private LearntEdges() {
    }

    static void hold() {
        learntWay();
        shortestWay();
        noted();
        learnt();
        shortest();
        right();
        many();
    }

    /** A path over all nodes, 0 to 7, each link with this delay. */
    private static String path(int delay) {
        StringBuilder lines = new StringBuilder();
        for (int i = 0; i < 7; i++) {
            lines.append("link ").append(i).append(' ').append(i + 1).append(' ').append(delay).append('\n');
        }
        return lines.toString();
    }

    private static void learntWay() {
        Sentences.hold("to the NEIGHBOUR with the greatest SHARE of the ROW (of several the least), and so on, "
            + "till the AIM is come to",
            """
            link 0 1 5
            link 0 2 5
            link 1 3 5
            link 2 3 5
            floor 0
            raise 1 3 3 2
            raise 2 3 3 2
            learnt 0 3 11 = 1             # 500 and 500
            raise 0 3 2 2 = 501
            learnt 0 3 11 = 2
            raise 0 3 1 2 = 500
            share 0 3 2 = 500
            learnt 0 3 11 = 1
            """, """
            link 0 2 5                    # 334, 333, 333
            link 0 1 5
            link 0 7 5
            learnt 0 1 1 = 1
            learnt 0 2 1 = -9
            """);
        Sentences.hold("none, if a NODE comes twice, or has no NEIGHBOURS.",
            """
            learnt 0 7 0 = -9             # no neighbours
            learnt 0 7 1 = -9
            learnt 0 7 2 = -9
            learnt 0 7 10 = -9
            learnt 0 7 17 = -9
            link 0 1 5
            learnt 0 7 0 = -9             # 0, 1, 0
            learnt 0 7 10 = -9
            learnt 7 0 0 = -9
            learnt 0 1 0 = 5
            """, """
            link 1 2 5                    # a ring ahead of the aim, that the start is not in
            link 2 3 5
            link 3 1 5
            link 0 1 5
            link 3 7 5
            floor 0
            raise 1 7 2 1000
            raise 2 7 3 1000
            raise 3 7 1 1000
            learnt 0 7 0 = -9
            raise 3 7 7 1000
            learnt 0 7 0 = 20
            """);
    }

    private static void shortestWay() {
        Sentences.hold("The SHORTEST: the least sum of DELAYS of any way.",
            path(60) + """
            shortest 0 7 = 420            # the longest that there is
            shortest 7 0 = 420
            link 0 7 60
            shortest 0 7 = 60
            """, """
            link 0 1 1
            shortest 0 1 = 1              # the least that there is
            shortest 1 0 = 1
            """, """
            link 0 1 30
            link 1 2 30
            link 0 2 60
            shortest 0 2 = 60
            delay 2 59
            shortest 0 2 = 59
            delay 2 60
            delay 0 29
            shortest 0 2 = 59
            """, path(1) + "link 0 7 8\nshortest 0 7 = 7\ndelay 7 6\nshortest 0 7 = 6\n"
            + "shortest 0 6 = 6\nshortest 6 0 = 6\nshortest 5 0 = 5\n");
    }

    private static void noted() {
        Sentences.hold("Of what is NOTED for NODE i and an AIM d: 0 how many are kept, 1 BEST (NONE: none is "
            + "kept), 2 the last one (NONE), 3 their sum. UNKNOWN; OUTSIDE; STATE: i is d.", """
            noted -1 0 4 = -1             # ahead of OUTSIDE
            noted 8 0 0 = -1
            noted 0 -1 0 = -1
            noted 0 8 0 = -1
            noted 8 8 0 = -1
            noted 0 0 -1 = -2             # ahead of STATE
            noted 0 0 4 = -2
            noted 0 1 -1 = -2
            noted 0 1 4 = -2
            noted 0 0 0 = -3
            noted 7 7 3 = -3
            noted 0 1 0 = 0
            noted 0 1 1 = -9
            noted 0 1 2 = -9
            noted 0 1 3 = 0
            link 0 1 5
            send 0 0 1
            ticks 6 = 1
            noted 0 1 0 = 1
            noted 0 1 1 = 5
            noted 0 1 2 = 5
            noted 0 1 3 = 5
            delay 0 6
            send 0 0 1
            ticks 7 = 1
            noted 0 1 0 = 2
            noted 0 1 1 = 5
            noted 0 1 2 = 6
            noted 0 1 3 = 11
            noted 1 0 0 = 0
            """);
    }

    private static void learnt() {
        Sentences.hold("The LEARNT way from a NODE to an AIM: 0 the sum of its DELAYS, 1 how many LINKS, 2 the "
            + "set of its NODES, 10 and k its NODE k (0 .. 7; NONE: it has not so many); NONE: there is none. "
            + "UNKNOWN; OUTSIDE; STATE: they are one.",
            """
            learnt -1 0 3 = -1            # ahead of OUTSIDE
            learnt 8 0 0 = -1
            learnt 0 -1 0 = -1
            learnt 0 8 0 = -1
            learnt 8 8 0 = -1
            learnt 0 0 -1 = -2            # ahead of STATE
            learnt 0 0 3 = -2
            learnt 0 0 9 = -2
            learnt 0 0 18 = -2
            learnt 0 1 -1 = -2            # ahead of NONE
            learnt 0 1 3 = -2
            learnt 0 1 9 = -2
            learnt 0 1 18 = -2
            learnt 0 1 -2147483648 = -2
            learnt 0 1 2147483647 = -2
            learnt 0 0 0 = -3             # ahead of NONE
            learnt 7 7 17 = -3
            learnt 0 1 0 = -9
            learnt 0 1 2 = -9
            learnt 0 1 10 = -9
            learnt 0 1 17 = -9
            link 0 1 60
            learnt 0 1 0 = 60
            learnt 0 1 1 = 1
            learnt 0 1 2 = 3
            learnt 0 1 10 = 0
            learnt 0 1 11 = 1
            learnt 0 1 12 = -9
            learnt 0 1 17 = -9
            learnt 0 1 18 = -2
            link 7 6 1
            learnt 7 6 0 = 1
            learnt 7 6 2 = 192            # without node 0
            learnt 7 6 10 = 7
            learnt 7 6 11 = 6
            """, path(60) + Sentences.each(1, 6, "even * 7") + """
            raise 1 7 2 10
            raise 2 7 3 10
            raise 3 7 4 10
            raise 4 7 5 10
            raise 5 7 6 10
            learnt 0 7 0 = -9
            raise 6 7 7 10
            learnt 0 7 0 = 420
            learnt 0 7 1 = 7
            learnt 0 7 2 = 255
            learnt 0 7 10 = 0
            learnt 0 7 16 = 6
            learnt 0 7 17 = 7             # all that there are
            learnt 0 7 18 = -2
            learnt 1 7 16 = 7
            learnt 1 7 17 = -9
            """);
    }

    private static void shortest() {
        Sentences.hold("The SHORTEST from a NODE to an AIM; NONE: there is no way. UNKNOWN; STATE: they are "
            + "one.", """
            shortest -1 0 = -1
            shortest 8 0 = -1
            shortest 0 -1 = -1
            shortest 0 8 = -1
            shortest 8 8 = -1             # ahead of STATE
            shortest 0 0 = -3
            shortest 7 7 = -3
            shortest 0 7 = -9             # no links yet
            link 0 1 60
            link 6 7 60
            shortest 0 7 = -9
            shortest 0 2 = -9
            shortest 2 0 = -9
            shortest 0 1 = 60
            link 1 6 60
            shortest 0 7 = 180
            cut 0
            shortest 0 7 = -9
            shortest 1 7 = 120
            """);
    }

    private static void right() {
        Sentences.hold("How many ROWS have their greatest SHARE (of several the least NEIGHBOUR's) at a "
            + "NEIGHBOUR over which a SHORTEST way to their AIM goes (those from whose NODE there is no way to "
            + "the AIM do not count).",
            """
            right = 0                     # no links yet
            link 0 1 5
            right = 2                     # there is no way to the other six
            link 6 7 5
            right = 4
            link 1 6 5
            right = 9                     # 12 ways; not of 1 for 6 and 7, and of 6 for 7
            """, STAR + """
            right = 50                    # of 0 for 1 alone, of the others all seven
            """ + Sentences.each(2, 7, "raise 0 * * 500") + """
            right = 56                    # all that there are
            raise 0 7 1 1000
            right = 55
            """, """
            link 0 1 5
            link 0 2 5
            link 1 3 5
            link 2 3 5
            floor 0
            raise 0 3 2 2 = 501
            right = 8
            delay 2 4
            right = 5                     # over 1 and 3 it is less now: not of 0 for 3, 1 for 2, 2 for 1
            raise 0 3 1 2 = 500
            right = 6                     # like shares: that of 1 counts
            """);
    }

    private static void many() {
        Sentences.hold("How many: 0 LINKS, 1 WALKERS, 2 that go OUT, 3 DONE, 4 LOST so far, 5 time, 6 TRIPS of "
            + "all that were DONE together, 7 DRAWS so far. OUTSIDE.",
            "many -1 = -2\n" + Sentences.each(0, 7, "many * = 0") + """
            many 8 = -2
            many -2147483648 = -2
            many 2147483647 = -2
            """, NetEdges.allAtOnce() + """
            many 0 = 1
            many 1 = 12
            many 2 = 12
            many 7 = 12
            ticks 60 = 0
            many 1 = 12
            many 2 = 0
            many 3 = 0
            ticks 1 = 12
            many 1 = 0
            many 3 = 12
            many 4 = 0
            many 5 = 61
            many 6 = 720
            send 0 5 1 = -9
            many 4 = 1
            many 7 = 12
            """, Sentences.links(16) + "many 0 = 16\ncut 0\nmany 0 = 15\n");
    }
}
