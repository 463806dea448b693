/** Promises 7 to 12: shares, floor, gain, fading, raising, even rows. */
public final class RowTest {
    private RowTest() {
    }

    public static void main(String[] args) {
        shares();
        floor();
        liftTakesFromTheGreatestEachTime();
        gain();
        fade();
        fadeLifts();
        fadeCountsAllRows();
        raiseSharesOutByRests();
        raiseEdges();
        even();
        Script.end();
    }

    private static void shares() {
        Script.run("7 share", """
            share 0 1 2 = -9
            share 0 0 1 = -3
            share 0 0 8 = -1
            share 8 0 1 = -1
            share 0 8 1 = -1
            share 0 -1 1 = -1
            share 0 1 -1 = -1
            link 0 5 5
            share 0 1 5 = 1000
            share 0 1 0 = -9
            link 0 2 5
            link 0 7 5
            share 0 1 2 = 334
            share 0 1 5 = 333
            share 0 1 7 = 333
            share 0 7 7 = 333
            share 5 0 0 = 1000
            link 0 1 5
            link 0 3 5
            link 0 4 5
            share 0 6 1 = 167
            share 0 6 2 = 167
            share 0 6 3 = 167
            share 0 6 4 = 167
            share 0 6 5 = 166
            share 0 6 7 = 166
            """);
    }

    private static void floor() {
        Script.run("8 floor", """
            floor 0 = 20
            floor 100 = 0
            floor 101 = -2
            floor -1 = -2
            floor 0 = 100
            link 0 1 5
            link 0 2 5
            raise 0 7 1 1000 = 1000
            floor 30 = 0
            share 0 7 2 = 0       # only what is lifted from now on
            raise 0 7 1 0 = 970
            share 0 7 2 = 30
            """);
    }

    private static void liftTakesFromTheGreatestEachTime() {
        Script.run("8 lifted", sevenNeighbours() + """
            floor 0
            raise 0 7 1 1000 = 1000
            raise 0 7 2 500 = 500
            raise 0 7 3 333 = 333
            share 0 7 1 = 334     # of two like rests the least neighbour's
            raise 0 7 4 250 = 250
            share 0 7 1 = 250     # the rests of 2 and 3 were greater
            raise 0 7 5 200 = 200
            raise 0 7 6 167 = 167
            share 0 7 1 = 167
            share 0 7 2 = 167
            share 0 7 3 = 167
            share 0 7 4 = 166
            share 0 7 5 = 166
            share 0 7 7 = 0
            floor 100
            raise 0 7 7 0 = 100
            share 0 7 1 = 100     # fell to 67, and was lifted in its turn
            share 0 7 2 = 134
            share 0 7 3 = 167
            share 0 7 4 = 166
            share 0 7 5 = 166
            share 0 7 6 = 167
            """);
    }

    private static String sevenNeighbours() {
        StringBuilder lines = new StringBuilder();
        for (int k = 1; k < 8; k++) {
            lines.append("link 0 ").append(k).append(" 5\n");
        }
        return lines.toString();
    }

    private static void gain() {
        Script.run("9 gain", """
            gain 0 = 300
            gain 1000 = 0
            gain 1001 = -2
            gain -1 = -2
            link 0 1 5
            link 0 2 5
            floor 0
            nextDraw 0
            send 0 0 1 = 0
            ticks 6 = 1
            share 0 1 1 = 1000    # the best there is, with all the gain there is
            gain 0 = 1000
            even 0 1
            nextDraw 0
            send 0 0 1 = 0
            ticks 6 = 1
            share 0 1 1 = 500
            gain 7 = 0
            """);
    }

    private static void fade() {
        Script.run("10 fade", """
            fade 500 = 0
            fade -1 = -2
            fade 1001 = -2
            link 0 1 5
            link 0 2 5
            link 0 3 5
            floor 0
            raise 0 7 1 1000 = 1000
            fade 0 = 0
            fade 100 = 3          # 933.33, 33.33, 33.33: like rests
            share 0 7 1 = 934
            share 0 7 2 = 33
            share 0 7 3 = 33
            fade 500 = 3          # 633.67, 183.17, 183.17
            share 0 7 1 = 634
            share 0 7 2 = 183
            share 0 7 3 = 183
            fade 1000 = 3
            share 0 7 1 = 334
            share 0 7 2 = 333
            share 0 7 3 = 333
            fade 1000 = 0
            """);
    }

    private static void fadeLifts() {
        Script.run("10 fade lifts", """
            link 0 1 5
            link 0 2 5
            raise 0 7 1 1000 = 980
            fade 0 = 0
            floor 100 = 20
            fade 0 = 2
            share 0 7 1 = 900
            share 0 7 2 = 100
            floor 20
            fade 0 = 0
            link 4 0 5
            link 4 5 5
            link 4 6 5
            raise 4 0 6 1000 = 960
            share 4 0 0 = 20      # the least neighbour there can be
            floor 100
            fade 0 = 3            # the row for the least aim there can be
            share 4 0 0 = 100
            share 4 0 5 = 100
            share 4 0 6 = 800
            """);
    }

    private static void fadeCountsAllRows() {
        StringBuilder raises = new StringBuilder();
        for (int d = 1; d < 8; d++) {
            raises.append("raise 0 ").append(d).append(" 1 500 = 750\n");
        }
        Script.run("10 fade all rows", "link 0 1 5\nlink 0 2 5\nlink 1 2 5\n" + raises + """
            raise 1 7 2 500 = 750
            fade 10 = 16
            share 0 1 1 = 748     # 747.5 and 252.5: the one that is left to the least
            share 0 1 2 = 252
            share 0 7 1 = 748
            share 1 7 0 = 253
            share 1 7 2 = 747
            """);
    }

    private static void raiseSharesOutByRests() {
        Script.run("11 raise", """
            link 0 1 5
            link 0 2 5
            link 0 3 5
            raise 0 7 3 100 = 399
            share 0 7 1 = 301     # rests 634 and 33
            share 0 7 2 = 300
            raise 0 7 1 100 = 370
            share 0 7 2 = 270     # rests 270 and 429
            share 0 7 3 = 360
            share 0 6 1 = 334     # no other row
            raise 0 6 1 500 = 667
            share 0 6 2 = 167     # like rests: the least neighbour
            share 0 6 3 = 166
            """);
    }

    private static void raiseEdges() {
        Script.run("11 raise, edges", """
            raise 0 1 2 1001 = -2
            raise 0 0 1 -1 = -2
            raise 0 1 2 5 = -3
            raise 0 0 1 5 = -3
            raise 9 0 0 1001 = -1
            raise 0 8 1 1001 = -1
            raise 0 1 8 1001 = -1
            raise -1 0 1 5 = -1
            link 0 1 5
            raise 0 7 1 0 = 1000
            raise 0 7 1 1000 = 1000
            raise 0 0 1 5 = -3
            raise 0 7 2 5 = -3
            link 0 2 5
            raise 0 1 2 0 = 500
            raise 0 1 2 1 = 500
            raise 0 1 2 2 = 501
            raise 0 1 2 1000 = 980
            raise 0 1 2 1000 = 980
            floor 0
            raise 0 1 2 1000 = 1000
            raise 0 1 2 1000 = 1000   # the others are nothing together
            share 0 1 1 = 0
            raise 0 1 1 1000 = 1000
            share 0 1 2 = 0
            """);
    }

    private static void even() {
        Script.run("12 even", """
            even 0 0 = -3
            even 8 8 = -1
            even 0 8 = -1
            even -1 0 = -1
            even 0 1 = 0
            link 0 1 5
            link 0 2 5
            link 0 3 5
            raise 0 1 2 500
            raise 0 7 2 500 = 666
            nextDraw 0
            send 0 0 1 = 0
            ticks 6 = 1
            even 0 1 = 3
            share 0 1 1 = 334
            share 0 1 2 = 333
            share 0 1 3 = 333
            share 0 7 2 = 666
            noted 0 1 0 = 1       # notes stay
            """);
    }
}
