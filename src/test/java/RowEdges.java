/** What the document says of rows, and promises 7 to 12. */
final class RowEdges {
    private static final String TWO = "link 0 1 5\nlink 0 2 5\n";
    private static final String THREE = TWO + "link 0 3 5\n";
    private static final String FOUR = THREE + "link 0 4 5\n";
    private static final String SEVEN = Sentences.each(1, 7, "link 0 * 5");

    private RowEdges() {
    }

    static void hold() {
        rows();
        evenRows();
        evenAsLinksComeOrGo();
        sharedOut();
        lifted();
        raised();
        fading();
        share();
        floor();
        gain();
        fade();
        raise();
        even();
    }

    private static String rowOfZero(int aim, int... shares) {
        StringBuilder lines = new StringBuilder();
        for (int n = 0; n < shares.length; n++) {
            lines.append("share 0 ").append(aim).append(' ').append(n + 1).append(" = ");
            lines.append(shares[n]).append('\n');
        }
        return lines.toString();
    }

    private static void rows() {
        Sentences.hold("A ROW, for each NODE i and each AIM d (another NODE)",
            "link 0 1 5\nshare 0 0 1 = -3\n" + Sentences.each(1, 7, "share 0 * 1 = 1000"),
            "link 7 6 5\nshare 7 7 6 = -3\n" + Sentences.each(0, 6, "share 7 * 6 = 1000"));
        Sentences.hold("a SHARE of each NEIGHBOUR of i, together 1000 (nothing, if it has none)",
            Sentences.each(0, 7, "share 0 7 * = -9") + "even 0 7 = 0\nfade 1000 = 0\n", """
            link 0 5 5
            share 0 7 5 = 1000
            cut 0
            share 0 7 5 = -9
            """);
    }

    private static void evenRows() {
        Sentences.hold("An EVEN ROW: 1000 by how many NEIGHBOURS there are, cut down, to each; of what is "
            + "left 1 to each from the least NEIGHBOUR on.",
            "link 0 1 5\n" + rowOfZero(7, 1000) + "link 0 2 5\n" + rowOfZero(7, 500, 500)
            + "link 0 3 5\n" + rowOfZero(7, 334, 333, 333)
            + "link 0 4 5\n" + rowOfZero(7, 250, 250, 250, 250)
            + "link 0 5 5\n" + rowOfZero(7, 200, 200, 200, 200, 200)
            + "link 0 6 5\n" + rowOfZero(7, 167, 167, 167, 167, 166, 166)
            + "link 0 7 5\n" + rowOfZero(7, 143, 143, 143, 143, 143, 143, 142),
            Sentences.each(0, 6, "link 7 * 5") + Sentences.each(0, 5, "share 7 0 * = 143")
            + "share 7 0 6 = 142\n");
    }

    private static void evenAsLinksComeOrGo() {
        Sentences.hold("As a LINK comes or goes, all ROWS of its two NODES become EVEN",
            TWO + "link 7 5 5\nlink 7 6 5\n"
            + Sentences.each(1, 7, "raise 0 * 1 500 = 750") + Sentences.each(0, 6, "raise 7 * 5 500 = 750")
            + "raise 1 7 0 500\nlink 0 7 5 = 4\n"
            + Sentences.each(1, 7, "share 0 * 1 = 334") + Sentences.each(0, 6, "share 7 * 5 = 333")
            + Sentences.each(1, 7, "raise 0 * 1 500 = 667") + Sentences.each(0, 6, "raise 7 * 5 500 = 666")
            + "cut 4\n"
            + Sentences.each(1, 7, "share 0 * 1 = 500") + Sentences.each(0, 6, "share 7 * 5 = 500"),
            TWO + "link 3 4 5\nlink 3 5 5\nraise 0 7 1 500 = 750\n" + """
            link 3 6 5                    # node 0 has no part in it
            share 0 7 1 = 750
            cut 4
            share 0 7 1 = 750
            link 0 1 5 = -3               # refused: none came
            share 0 7 1 = 750
            """);
        Sentences.hold("what NOTES these have is no more", """
            link 0 1 5
            link 2 3 5
            send 0 0 1
            send 0 2 3
            send 0 1 0
            ticks 7 = 3
            noted 0 1 0 = 1
            noted 1 0 0 = 1
            link 1 4 5 = 2
            noted 1 0 0 = 0
            noted 1 0 1 = -9
            noted 1 0 2 = -9
            noted 1 0 3 = 0
            noted 0 1 0 = 1               # that of a neighbour of the two
            noted 2 3 0 = 1
            cut 1
            noted 2 3 0 = 0
            noted 2 3 1 = -9
            noted 2 3 2 = -9
            noted 2 3 3 = 0
            """, """
            link 0 1 5
            delay 0 3
            send 0 0 1
            ticks 4 = 1
            link 0 2 5
            delay 0 9
            nextDraw 0
            send 0 0 1
            ticks 10 = 1
            noted 0 1 0 = 1               # the 3 is no more, so 9 is BEST
            noted 0 1 1 = 9
            share 0 1 1 = 650
            """);
    }

    private static void sharedOut() {
        Sentences.hold("SHARED OUT: a number R to some in parts as numbers v of theirs (together V, above "
            + "0): to each R times v by V, cut down",
            FOUR + "raise 0 7 1 400 = 550\n" + rowOfZero(7, 550, 150, 150, 150),
            FOUR + "floor 0\nraise 0 7 1 1000 = 1000\n" + rowOfZero(7, 1000, 0, 0, 0),
            // Those of the others are 1 together.
            THREE + "floor 0\nraise 0 7 1 1000 = 1000\nraise 0 7 3 1 = 1\n" + rowOfZero(7, 999, 0, 1)
            + "raise 0 7 1 0 = 999\n" + rowOfZero(7, 999, 0, 1));
        Sentences.hold("what is left, 1 to each of those with the greatest rests of that division (of "
            + "several the least NEIGHBOUR first)",
            // 333 by 333 and 333: half of one is left to each.
            THREE + "raise 0 7 1 500 = 667\n" + rowOfZero(7, 667, 167, 166),
            // 749 by 250, 250, 250: two are left.
            FOUR + "raise 0 7 1 2 = 251\n" + rowOfZero(7, 251, 250, 250, 249),
            FOUR + "raise 0 7 4 2 = 251\n" + rowOfZero(7, 250, 250, 249, 251),
            // 630 by 300 and 399: rests 270 and 429 of 699.
            THREE + "raise 0 7 3 100 = 399\n" + rowOfZero(7, 301, 300, 399)
            + "raise 0 7 1 100 = 370\n" + rowOfZero(7, 370, 270, 360),
            // 714 by 143 five times and 142: rests 119 five times and 262, so the last gets what is left.
            SEVEN + "raise 0 6 1 167 = 286\n" + rowOfZero(6, 286, 119, 119, 119, 119, 119, 119),
            // Node 0 is the least neighbour that there can be.
            "link 7 0 5\nlink 7 1 5\nlink 7 2 5\nraise 7 6 2 500 = 666\nshare 7 6 0 = 167\nshare 7 6 1 = 167\n"
            + "raise 7 6 2 100 = 699\nshare 7 6 0 = 151\nshare 7 6 1 = 150\n");
    }

    private static void lifted() {
        Sentences.hold("as long as a SHARE of the ROW is less than FLOOR (0 .. 100; 20 at first)",
            TWO + "raise 0 7 1 962 = 980\n" + rowOfZero(7, 980, 20),
            TWO + "floor 19\nraise 0 7 1 962 = 981\n" + rowOfZero(7, 981, 19),
            TWO + "floor 21\nraise 0 7 1 960 = 979\n" + rowOfZero(7, 979, 21),
            TWO + "raise 0 7 1 958 = 979\n" + rowOfZero(7, 979, 21),
            TWO + "floor 0\nraise 0 7 1 1000 = 1000\n" + rowOfZero(7, 1000, 0),
            TWO + "floor 1\nraise 0 7 1 1000 = 999\n" + rowOfZero(7, 999, 1),
            TWO + "floor 99\nraise 0 7 1 802 = 901\n" + rowOfZero(7, 901, 99),
            TWO + "floor 100\nraise 0 7 1 802 = 900\n" + rowOfZero(7, 900, 100),
            TWO + "floor 100\nraise 0 7 1 798 = 899\n" + rowOfZero(7, 899, 101),
            SEVEN + "floor 100\nraise 0 7 4 1000 = 400\n"
            + rowOfZero(7, 100, 100, 100, 400, 100, 100, 100),
            "link 7 0 5\nlink 7 1 5\nraise 7 6 1 1000 = 980\nshare 7 6 0 = 20\n");
        Sentences.hold("the one of the least such NEIGHBOUR becomes FLOOR",
            // 502 pays for 1 and is no more the greatest as 4 is lifted; the other way it would pay twice.
            FOUR + """
            floor 0
            raise 0 7 2 1000 = 1000
            raise 0 7 3 490 = 490
            raise 0 7 4 15 = 15
            """ + rowOfZero(7, 0, 502, 483, 15) + """
            floor 20
            raise 0 7 4 0 = 20
            """ + rowOfZero(7, 20, 482, 478, 20));
        Sentences.hold("what that took is taken from the greatest SHARE (of several that of the least "
            + "NEIGHBOUR).",
            THREE + "floor 0\nraise 0 7 2 1000 = 1000\nraise 0 7 3 500 = 500\n"
            + rowOfZero(7, 0, 500, 500) + "floor 20\nraise 0 7 1 0 = 20\n" + rowOfZero(7, 20, 480, 500),
            THREE + "floor 0\nraise 0 7 2 1000 = 1000\nraise 0 7 3 501 = 501\n"
            + rowOfZero(7, 0, 499, 501) + "floor 20\nraise 0 7 1 0 = 20\n" + rowOfZero(7, 20, 499, 481));
    }

    private static void raised() {
        Sentences.hold("To RAISE a NEIGHBOUR k of a ROW by r (0 .. 1000)", TWO + """
            floor 0
            raise 0 7 1 -1 = -2
            raise 0 7 1 1001 = -2
            share 0 7 1 = 500
            raise 0 7 1 0 = 500
            raise 0 7 1 1000 = 1000
            """);
        Sentences.hold("its SHARE s becomes s and (1000 less s) times r by 1000 (cut down)",
            TWO + "floor 0\nraise 0 7 1 1 = 500\n" + rowOfZero(7, 500, 500)
            + "raise 0 7 1 2 = 501\n" + rowOfZero(7, 501, 499),
            TWO + "floor 0\nraise 0 7 1 999 = 999\n" + rowOfZero(7, 999, 1)
            + "raise 0 7 1 999 = 999\nraise 0 7 1 1000 = 1000\nraise 0 7 1 1 = 1000\n"
            + "raise 0 7 2 0 = 0\nraise 0 7 2 1 = 1\n" + rowOfZero(7, 999, 1));
        Sentences.hold("(if these are together 0: EVEN among them, as in an EVEN ROW)",
            THREE + "floor 0\nraise 0 7 2 1000 = 1000\nraise 0 7 2 0 = 1000\n" + rowOfZero(7, 0, 1000, 0)
            + "raise 0 7 2 500 = 1000\nraise 0 7 2 1000 = 1000\n" + rowOfZero(7, 0, 1000, 0),
            THREE + "floor 0\nraise 0 7 2 1000 = 1000\nfloor 7\nraise 0 7 2 1000 = 986\n"
            + rowOfZero(7, 7, 986, 7));
        Sentences.hold("by their SHARES (if these are together 0: EVEN among them, as in an EVEN ROW); then "
            + "the ROW is LIFTED.",
            THREE + "raise 0 7 1 1000 = 960\n" + rowOfZero(7, 960, 20, 20),
            THREE + "floor 0\nraise 0 7 1 1000\nfloor 20\nraise 0 7 3 0 = 20\n" + rowOfZero(7, 960, 20, 20));
        Sentences.hold("(With one NEIGHBOUR alone nothing changes.)", """
            link 0 1 5
            raise 0 7 1 0 = 1000
            raise 0 7 1 500 = 1000
            raise 0 7 1 1000 = 1000
            floor 100
            raise 0 7 1 0 = 1000
            share 0 7 1 = 1000
            """);
    }

    private static void fading() {
        Sentences.hold("FADING by e (0 .. 1000)", TWO + """
            floor 0
            raise 0 7 1 1000
            fade -1 = -2
            fade 1001 = -2
            share 0 7 1 = 1000
            fade 0 = 0
            share 0 7 1 = 1000
            fade 1000 = 2
            share 0 7 1 = 500
            """);
        Sentences.hold("each ROW is SHARED OUT anew, 1000 by numbers v: SHARE times (1000 less e) times how "
            + "many NEIGHBOURS there are, and 1000 times e",
            // 999.5 and 0.5: like rests, and the one that is left stays with the least.
            TWO + "floor 0\nraise 0 7 1 1000\nfade 1 = 0\n" + rowOfZero(7, 1000, 0)
            + "fade 2 = 2\n" + rowOfZero(7, 999, 1),
            TWO + "floor 0\nraise 0 7 2 1000\nfade 1 = 2\n" + rowOfZero(7, 1, 999),
            TWO + "floor 0\nraise 0 7 1 1000\nfade 999 = 2\n" + rowOfZero(7, 501, 499),
            // 571 and 3 sevenths, the others 71 and 3 sevenths: like rests, and three are left.
            SEVEN + "floor 0\nraise 0 7 7 1000\nfade 500 = 7\n"
            + rowOfZero(7, 72, 72, 72, 71, 71, 71, 571),
            "link 0 1 5\nfade 0 = 0\nfade 500 = 0\nfade 1000 = 0\nshare 0 7 1 = 1000\n",
            "fade 0 = 0\nfade 1000 = 0\n");
        Sentences.hold("and 1000 times e; then it is LIFTED.",
            TWO + "raise 0 7 1 1000 = 980\nfloor 100\nfade 0 = 2\n" + rowOfZero(7, 900, 100),
            TWO + "raise 0 7 1 1000 = 980\nfloor 20\nfade 0 = 0\nfloor 21\nfade 0 = 2\n"
            + rowOfZero(7, 979, 21));
    }

    private static void share() {
        Sentences.hold("The SHARE of a NEIGHBOUR k in the ROW of NODE i for an AIM d; NONE: k is no NEIGHBOUR "
            + "of i. UNKNOWN: i, d, k; STATE: i is d.", """
            share 0 7 1 = -9              # no links yet
            share -1 7 1 = -1
            share 8 7 1 = -1
            share 0 -1 1 = -1
            share 0 8 1 = -1
            share 0 7 -1 = -1
            share 0 7 8 = -1
            share 0 0 8 = -1              # ahead of STATE
            share 8 8 0 = -1
            share 0 0 0 = -3              # ahead of NONE
            share 0 0 1 = -3
            link 0 1 5
            share 0 0 1 = -3
            share 0 7 0 = -9
            share 0 7 2 = -9
            share 0 7 7 = -9
            share 0 7 1 = 1000
            share 0 1 1 = 1000
            share 1 7 0 = 1000
            """);
    }

    private static void floor() {
        Sentences.hold("FLOOR becomes v (0 .. 100; for what is LIFTED from now on): what it was. OUTSIDE.",
            """
            floor -1 = -2
            floor 101 = -2
            floor -2147483648 = -2
            floor 2147483647 = -2
            floor 0 = 20
            floor 100 = 0
            floor 101 = -2
            floor 20 = 100
            """, TWO + "floor 0\nraise 0 7 1 1000\nfloor 100\n" + rowOfZero(7, 1000, 0)
            + "raise 0 6 1 0\n" + rowOfZero(7, 1000, 0) + "fade 0 = 2\n" + rowOfZero(7, 900, 100)
            + "floor 0\nfade 0 = 0\n" + rowOfZero(7, 900, 100));
    }

    private static void gain() {
        Sentences.hold("GAIN becomes v (0 .. 1000): what it was. OUTSIDE.", """
            gain -1 = -2
            gain 1001 = -2
            gain -2147483648 = -2
            gain 2147483647 = -2
            gain 0 = 300
            gain 1000 = 0
            gain 1001 = -2
            gain 300 = 1000
            """);
    }

    private static void fade() {
        Sentences.hold("All ROWS FADE by e: how many SHARES changed by that. OUTSIDE.",
            """
            fade -1 = -2
            fade 1001 = -2
            fade -2147483648 = -2
            fade 2147483647 = -2
            fade 0 = 0                    # no links yet
            fade 1000 = 0
            """, THREE + "floor 0\n" + Sentences.each(1, 7, "raise 0 * 3 1000 = 1000") + """
            fade 1000 = 21
            fade 1000 = 0
            share 0 1 1 = 334
            share 0 7 3 = 333
            raise 0 7 1 500 = 667
            fade 0 = 0
            fade 1000 = 3
            """, """
            link 7 0 5                    # the row of the greatest node for the least aim
            link 7 6 5
            raise 7 0 6 1000 = 980
            fade 1000 = 2
            share 7 0 0 = 500
            share 7 0 6 = 500
            """, TWO + """
            floor 100
            raise 0 7 1 1000 = 900
            fade 1 = 0                    # 899.6 and 100.4
            fade 2 = 2                    # 899.2 and 100.8
            """);
    }

    private static void raise() {
        Sentences.hold("NEIGHBOUR k of the ROW of NODE i for an AIM d is RAISED by r: its SHARE then. "
            + "UNKNOWN: i, d, k; OUTSIDE: r; STATE: i is d, k is no NEIGHBOUR of i.", """
            raise 0 7 1 5 = -3            # no links yet
            raise -1 7 1 1001 = -1        # ahead of OUTSIDE
            raise 8 7 1 5 = -1
            raise 0 -1 1 5 = -1
            raise 0 8 1 -1 = -1
            raise 0 7 -1 5 = -1
            raise 0 7 8 5 = -1
            raise 8 8 8 1001 = -1
            raise 0 7 1 1001 = -2         # ahead of STATE
            raise 0 0 1 -1 = -2
            raise 0 0 1 0 = -3
            link 0 1 5
            link 0 2 5
            raise 0 0 1 1000 = -3
            raise 0 7 0 0 = -3
            raise 0 7 3 1000 = -3
            raise 0 7 1 -2147483648 = -2
            raise 0 7 1 2147483647 = -2
            raise 0 7 1 0 = 500
            raise 0 7 1 1000 = 980
            share 0 6 1 = 500             # no other row
            share 1 7 0 = 1000
            """);
    }

    private static void even() {
        Sentences.hold("The ROW of NODE i for an AIM d becomes EVEN: how many NEIGHBOURS it has. UNKNOWN; "
            + "STATE: i is d.", """
            even 0 1 = 0                  # no links yet
            even -1 0 = -1
            even 8 0 = -1
            even 0 -1 = -1
            even 0 8 = -1
            even 8 8 = -1                 # ahead of STATE
            even 0 0 = -3
            even 7 7 = -3
            """, SEVEN + "raise 0 7 7 1000 = 880\nraise 0 1 7 1000 = 880\neven 0 7 = 7\n"
            + rowOfZero(7, 143, 143, 143, 143, 143, 143, 142) + "share 0 1 7 = 880\n", """
            link 0 1 5
            even 0 7 = 1
            share 0 7 1 = 1000
            even 1 7 = 1
            even 2 7 = 0
            """);
    }
}
