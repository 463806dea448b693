/** What the document says of how walkers go out, turn and come back, and promise 15. */
final class WalkEdges {
    private static final String TWO = "floor 0\nlink 0 1 5 = 0\nlink 0 2 5 = 1\n";

    private WalkEdges() {
    }

    static void hold() {
        lostAfter24();
        timeOnTheLink();
        onItTillItComes();
        memoryAsItComes();
        turn();
        back();
        noted();
        best();
        done();
        rewards();
        linkThatGoes();
        inATick();
        sentAndGone();
        ticks();
    }

    private static void lostAfter24() {
        Sentences.hold("so is one that began 24 LINKS already, in place of picking (no DRAW).",
            """
            link 0 1 1
            send 0 0 7 = 0
            ticks 22
            walker 0 8 = 23
            ticks 1
            walker 0 8 = 24               # the last that it may begin
            walker 0 6 = 24
            seed 77
            ticks 1
            walker 0 8 = -1
            many 1 = 0
            many 4 = 1
            many 7 = 24
            seed 77 = 77
            send 0 0 7 = 0                # one that takes its number begins its own
            walker 0 8 = 1
            """, """
            link 0 1 1
            send 0 0 7 = 0
            ticks 22
            link 1 7 1
            ticks 2 = 0
            walker 0 8 = 24               # it came to its aim over the 24th
            walker 0 3 = 1
            ticks 2 = 1
            many 4 = 0
            many 6 = 24
            """, """
            link 0 1 1
            send 0 0 7 = 0
            ticks 23
            walker 0 5 = 0
            link 0 7 1                    # too late by one link
            ticks 1 = 0
            many 1 = 0
            many 4 = 1
            """);
    }

    private static void timeOnTheLink() {
        Sentences.hold("On the LINK it takes DELAY and as many TICKS as other WALKERS that go OUT are on it "
            + "as it begins (either way)",
            """
            link 0 1 1
            send 0 0 1 = 0
            walker 0 6 = 1                # none is on it
            """, "link 0 1 60\n" + Sentences.times(10, "send 0 0 1") + """
            send 0 1 0 = 10
            walker 10 6 = 70
            send 1 0 1 = 11
            walker 11 6 = 71              # all others are on it
            ticks 60 = 0
            ofLink 0 3 = 11
            ofLink 0 4 = 1
            cut 0 = 12
            """, """
            link 0 1 5
            send 0 0 1 = 0
            ticks 5
            ofLink 0 4 = 1
            send 0 0 1 = 1
            walker 1 6 = 10               # one that comes back is not counted
            """);
    }

    private static void onItTillItComes() {
        Sentences.hold("it is on it till it comes to the NODE.",
            """
            link 0 1 5 = 0
            link 1 2 5 = 1
            send 0 0 2 = 0
            ticks 4
            ofLink 0 3 = 1
            walker 0 4 = 0
            ticks 1
            ofLink 0 3 = 0
            ofLink 1 3 = 1
            walker 0 4 = 1
            """, """
            link 0 1 5 = 0                # there and back again: it does not count itself
            send 1 0 7 = 0
            ticks 5
            walker 0 4 = 0
            walker 0 6 = 10
            ofLink 0 3 = 1
            """);
    }

    private static void memoryAsItComes() {
        String ring = "link 0 1 1\nlink 1 2 2\nlink 2 3 3\nlink 3 1 4\nsend 0 0 7 = 0\n";
        Sentences.hold("As it comes to a NODE: if that is in its MEMORY, all that it remembers behind that is "
            + "forgotten (the time there stays)",
            ring + """
            nextDraw 0
            ticks 3                       # at 1 it picks 2, and there 3
            nextDraw 0
            ticks 3                       # at 3 it picks 1
            walker 0 5 = 1
            walker 0 7 = 4
            ticks 4
            walker 0 7 = 2                # 2 and 3 are forgotten
            memory 0 1 0 = 1
            memory 0 1 1 = 1
            memory 0 2 0 = -9
            """,
            "link 0 1 1\nlink 1 2 2\nlink 2 3 3\nfloor 0\nsend 0 0 7 = 0\n" + """
            ticks 6
            walker 0 7 = 4
            walker 0 5 = 2
            ticks 2
            walker 0 7 = 4
            ticks 1
            walker 0 7 = 3                # the last but one: 3 alone is forgotten
            memory 0 2 0 = 2
            memory 0 2 1 = 3
            memory 0 3 0 = -9
            """, """
            link 0 1 1
            send 0 0 7 = 0
            ticks 1
            walker 0 7 = 2
            ticks 1
            walker 0 7 = 1                # the first: all but it is forgotten
            memory 0 0 0 = 0
            memory 0 0 1 = 0
            memory 0 1 0 = -9
            ticks 1
            memory 0 1 1 = 3              # it came there anew
            """);
        Sentences.hold("else the NODE and the time are put behind.", """
            link 0 1 1
            link 1 2 60
            send 0 0 7 = 0
            walker 0 7 = 1
            ticks 1
            walker 0 7 = 2
            memory 0 1 0 = 1
            memory 0 1 1 = 1
            ticks 59
            memory 0 2 0 = -9
            ticks 1
            memory 0 2 0 = 2
            memory 0 2 1 = 61
            """);
    }

    private static void turn() {
        Sentences.hold("At its AIM (which is put behind, too) it turns", """
            link 0 1 5
            send 0 0 1 = 0
            ticks 4
            walker 0 3 = 0
            walker 0 7 = 1
            ticks 1 = 0
            walker 0 3 = 1
            walker 0 7 = 2
            memory 0 1 0 = 1
            memory 0 1 1 = 5
            many 2 = 0
            many 7 = 1                    # it picks no more
            """);
        Sentences.hold("it comes BACK from NODE to NODE as its MEMORY tells, which stays as it is then, one "
            + "TICK for each LINK", """
            link 0 1 60
            link 1 2 60
            send 0 0 2 = 0
            ticks 120
            walker 0 5 = 1
            walker 0 6 = 121
            walker 0 7 = 3
            ticks 1 = 0
            walker 0 5 = 0
            walker 0 6 = 122
            walker 0 7 = 3
            memory 0 2 1 = 120
            ticks 1 = 1
            many 7 = 2
            """);
    }

    private static void back() {
        String toTheAim = "link 0 1 5 = 0\nlink 1 2 5 = 1\nsend 0 0 2 = 0\nticks 10 = 0\n";
        Sentences.hold("(no LINK between the two as it would begin: it is LOST)",
            toTheAim + """
            cut 0 = 0                     # not yet: it is on the other one
            walker 0 5 = 1
            many 4 = 0
            ticks 1 = 0
            walker 0 5 = -1
            many 1 = 0
            many 3 = 0
            many 4 = 1
            many 6 = 0
            noted 1 2 0 = 1               # it came to 1 still
            noted 0 2 0 = 0
            """, toTheAim + """
            cut 0 = 0
            link 3 4 5 = 0
            link 1 0 60 = 2               # another one between the two
            ticks 1 = 0
            walker 0 4 = 2
            ticks 1 = 1
            """);
        Sentences.hold("As it comes BACK to a NODE i, T is the time at which it was at the AIM less that in "
            + "its MEMORY for i", """
            link 0 1 1
            link 1 2 60
            ticks 200
            send 0 0 2 = 0
            ticks 62 = 0
            noted 1 2 2 = 60
            ticks 1 = 1
            noted 0 2 2 = 61
            noted 2 0 0 = 0
            noted 0 1 0 = 0
            noted 1 0 0 = 0
            """, """
            link 0 1 1
            send 0 0 1 = 0
            ticks 1 = 0
            noted 0 1 0 = 0               # not as it turns
            ticks 1 = 1
            noted 0 1 2 = 1
            noted 1 0 0 = 0
            """);
    }

    private static String trip(int delay) {
        return "delay 0 " + delay + "\nsend 0 0 1\nticks " + (delay + 1) + " = 1\n";
    }

    private static void noted() {
        Sentences.hold("T is NOTED for i and the AIM (the last 8 are kept)",
            "link 0 1 5\n" + trip(3) + trip(11) + trip(12) + trip(13) + trip(14) + trip(15) + trip(16) + """
            noted 0 1 0 = 7
            noted 0 1 3 = 84
            """ + trip(17) + """
            noted 0 1 0 = 8
            noted 0 1 1 = 3
            noted 0 1 2 = 17
            noted 0 1 3 = 101
            """ + trip(18) + """
            noted 0 1 0 = 8               # the 3 is not kept
            noted 0 1 1 = 11
            noted 0 1 2 = 18
            noted 0 1 3 = 116
            """ + trip(19) + """
            noted 0 1 1 = 12
            noted 0 1 2 = 19
            noted 0 1 3 = 124
            """);
    }

    /** A trip of a kind from 0 to 1 in so many ticks, with 1 raised from nothing: its share is the reward. */
    private static String rewarded(int kind, int delay, int reward) {
        return "delay 0 " + delay + "\neven 0 1\nnextDraw 0\nsend " + kind + " 0 1 = 0\nwalker 0 5 = 1\n"
            + "raise 0 1 2 1000\nshare 0 1 1 = 0\nticks " + (delay + 1) + " = 1\nshare 0 1 1 = " + reward + "\n";
    }

    private static void best() {
        Sentences.hold("with BEST, the least of those kept, the NEIGHBOUR from which it comes BACK is RAISED "
            + "by its REWARD in the ROW of i for the AIM.",
            // The one that has just been noted is one of those kept.
            TWO + rewarded(0, 10, 300) + rewarded(0, 5, 300) + rewarded(0, 10, 150)
            + "share 0 2 1 = 500\nshare 0 7 1 = 500\nshare 1 0 0 = 1000\n",
            // As the ninth comes the first, which was the best, goes.
            TWO + rewarded(0, 5, 300)
            + (rewarded(0, 10, 150)).repeat(7) + rewarded(0, 10, 300));
    }

    private static void done() {
        Sentences.hold("Back at its START it is DONE (TRIP: T there).", """
            link 0 1 7
            link 1 2 60
            send 0 0 2 = 0
            ticks 68 = 0
            many 3 = 0
            many 6 = 0
            ticks 1 = 1
            many 3 = 1
            many 6 = 67
            many 1 = 0
            walker 0 0 = -1
            """, """
            link 0 1 1
            send 0 0 1 = 0
            ticks 2 = 1
            many 6 = 1                    # the least that there is
            """);
    }

    private static void rewards() {
        Sentences.hold("REWARD: PLAIN: GAIN (0 .. 1000; 300 at first) times BEST by T, cut down.",
            TWO + rewarded(0, 5, 300) + rewarded(0, 7, 214) + rewarded(0, 60, 25),
            TWO + "gain 1000\n" + rewarded(0, 5, 1000) + rewarded(0, 6, 833) + rewarded(0, 60, 83),
            TWO + rewarded(0, 1, 300) + rewarded(0, 2, 150),
            TWO + "gain 1\n" + rewarded(0, 5, 1) + rewarded(0, 6, 0),
            TWO + "gain 0\n" + rewarded(0, 5, 0) + rewarded(0, 1, 0));
        Sentences.hold("HEEDFUL: likewise.",
            TWO + rewarded(1, 5, 300) + rewarded(1, 7, 214),
            TWO + "gain 1000\n" + rewarded(1, 5, 1000) + "gain 0\n" + rewarded(1, 5, 0));
        Sentences.hold("EAGER: what a PLAIN one has, and a quarter (cut down) of what that lacks of 1000.",
            TWO + rewarded(2, 5, 475) + rewarded(2, 7, 410),
            TWO + "gain 1000\n" + rewarded(2, 5, 1000) + "gain 0\n" + rewarded(2, 5, 250)
            + "gain 999\n" + rewarded(2, 5, 999) + "gain 997\n" + rewarded(2, 5, 997)
            + "gain 996\n" + rewarded(2, 5, 997) + "gain 1\n" + rewarded(2, 5, 250));
    }

    private static void linkThatGoes() {
        Sentences.hold("A LINK that goes makes all WALKERS that are on it LOST.", """
            link 0 1 5 = 0
            link 2 3 5 = 1
            send 0 0 1 = 0
            send 0 2 3 = 1
            ticks 5
            walker 0 3 = 1
            send 0 1 0 = 2
            send 0 0 1 = 3
            cut 0 = 3                     # one that comes back, two that go out, either way
            walker 0 0 = -1
            walker 1 0 = 0
            walker 2 0 = -1
            walker 3 0 = -1
            many 1 = 1
            many 4 = 3
            link 0 1 5 = 0
            ofLink 0 3 = 0                # none on the new one with its number
            ofLink 0 4 = 0
            ticks 1 = 1
            """);
    }

    private static void inATick() {
        Sentences.hold("In a TICK: the time is 1 more; then WALKERS that come to a NODE at that time do, by "
            + "their numbers, each with all that follows (picking, beginning the next LINK).",
            """
            link 0 1 5 = 0
            link 0 2 5 = 1
            link 0 3 5 = 2
            floor 0
            raise 0 1 1 1000 = 1000
            send 0 2 1 = 0
            send 0 3 1 = 1
            ticks 4
            walker 0 6 = 5
            ticks 1
            walker 0 6 = 10               # it begins first
            walker 1 6 = 11
            """, """
            link 0 1 5 = 0
            link 0 2 5 = 1
            link 0 3 5 = 2
            floor 0
            raise 0 1 1 1000 = 1000
            send 0 4 1 = -9
            link 4 5 5 = 3
            send 0 4 5 = 0                # so that the lesser number is sent later
            send 0 3 1 = 1
            cut 3 = 1
            send 0 2 1 = 0
            floor 0
            ticks 5
            walker 0 6 = 10
            walker 1 6 = 11
            """, """
            link 0 1 5 = 0                # two that meet: the later is on the link as the first begins
            link 0 2 5 = 1
            send 0 2 1 = 0
            nextDraw 0
            send 0 0 1 = 1
            ticks 5
            walker 0 6 = 11
            walker 1 3 = 1
            """, """
            link 0 1 5 = 0                # the other way round it has turned
            link 0 2 5 = 1
            nextDraw 0
            send 0 0 1 = 0
            send 0 2 1 = 1
            ticks 5
            walker 1 6 = 10
            walker 0 3 = 1
            """);
    }

    private static void sentAndGone() {
        Sentences.hold("A WALKER that is sent picks at once.", """
            link 0 1 5
            send 0 0 1 = 0
            many 7 = 1
            walker 0 8 = 1
            walker 0 4 = 0
            ofLink 0 3 = 1
            """);
        Sentences.hold("One that is LOST or DONE is no more.", """
            link 0 1 5
            send 0 0 1 = 0
            send 0 0 1 = 1
            ticks 6 = 1
            walker 0 0 = -1
            memory 0 0 0 = -1
            walker 1 0 = 0
            cut 0 = 1
            walker 1 0 = -1
            memory 1 0 0 = -1
            many 1 = 0
            many 2 = 0
            ticks 200 = 0
            many 3 = 1
            many 4 = 1
            """);
    }

    private static void ticks() {
        Sentences.hold("n TICKS (0 .. 200): how many WALKERS were DONE in them. OUTSIDE.",
            """
            ticks -1 = -2
            ticks 201 = -2
            ticks -2147483648 = -2
            ticks 2147483647 = -2
            many 5 = 0
            ticks 0 = 0
            many 5 = 0
            ticks 1 = 0
            ticks 200 = 0
            many 5 = 201
            """, NetEdges.allAtOnce() + """
            ticks 60 = 0
            ticks 0 = 0
            ticks 1 = 12
            ticks 1 = 0
            many 3 = 12
            many 6 = 720
            """, """
            link 0 1 60
            send 0 0 1
            ticks 200 = 1
            send 0 0 1
            ticks 60 = 0
            ticks 1 = 1                   # those of these ticks alone
            many 3 = 2
            send 0 0 1
            cut 0
            ticks 200 = 0                 # a lost one is not done
            """);
    }
}
