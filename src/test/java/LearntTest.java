/** Promises 18 to 22: what is noted and learnt, the shortest way, the counts. */
public final class LearntTest {
    private LearntTest() {
    }

    public static void main(String[] args) {
        noted();
        eightAreKept();
        rewards();
        learnt();
        learntOverAllNodes();
        shortest();
        right();
        rightOverSeveral();
        rightByTheNextStep();
        many();
        Script.end();
    }

    private static void noted() {
        Script.run("18 noted", """
            noted 0 8 4 = -1
            noted 8 0 0 = -1
            noted -1 0 0 = -1
            noted 0 0 4 = -2
            noted 0 1 -1 = -2
            noted 0 0 0 = -3
            noted 0 1 0 = 0
            noted 0 1 1 = -9
            noted 0 1 2 = -9
            noted 0 1 3 = 0
            link 0 1 5
            send 0 0 1
            ticks 6 = 1
            delay 0 3
            send 0 0 1
            ticks 4 = 1
            delay 0 8
            send 0 0 1
            ticks 9 = 1
            noted 0 1 0 = 3
            noted 0 1 1 = 3
            noted 0 1 2 = 8
            noted 0 1 3 = 16
            noted 1 0 0 = 0
            """);
    }

    private static void eightAreKept() {
        StringBuilder lines = new StringBuilder("link 0 1 5\n");
        lines.append("send 0 0 1\nticks 6 = 1\n");
        for (int n = 1; n <= 7; n++) {
            lines.append("delay 0 ").append(10 + n).append("\nsend 0 0 1\nticks 20 = 1\n");
        }
        Script.run("18 the last eight", lines + """
            noted 0 1 0 = 8
            noted 0 1 1 = 5
            noted 0 1 2 = 17
            noted 0 1 3 = 103
            delay 0 20
            send 0 0 1
            ticks 21 = 1
            noted 0 1 0 = 8
            noted 0 1 1 = 11      # 5 is kept no more
            noted 0 1 2 = 20
            noted 0 1 3 = 118
            """);
    }

    private static void rewards() {
        Script.run("15 rewards", """
            link 0 1 5 = 0
            link 0 2 5 = 1
            nextDraw 0
            send 0 0 1 = 0
            ticks 6 = 1
            share 0 1 1 = 650     # 300
            share 0 1 2 = 350
            delay 0 10
            nextDraw 0
            send 0 0 1 = 0
            ticks 11 = 1
            share 0 1 1 = 702     # 300 times 5 by 10
            delay 0 20
            nextDraw 0
            send 2 0 1 = 0
            ticks 21 = 1
            share 0 1 1 = 793     # 75 and 231
            delay 0 60
            nextDraw 0
            send 1 0 1 = 0
            ticks 61 = 1
            share 0 1 1 = 798     # 25
            gain 1000
            delay 0 7
            nextDraw 0
            send 1 0 1 = 0
            ticks 8 = 1
            share 0 1 1 = 942     # 714: 798 and 144
            gain 0
            nextDraw 0
            send 2 0 1 = 0
            ticks 8 = 1
            share 0 1 1 = 956     # nothing and 250
            """);
        Script.run("15 the row of every node on the way back", """
            link 0 1 5
            link 1 2 5
            link 1 3 5
            nextDraw 0
            send 0 0 2 = 0
            seed 1
            nextDraw 0
            ticks 5 = 0
            walker 0 5 = 2
            ticks 6 = 0
            share 1 2 2 = 533     # 333 and 200
            share 1 2 0 = 234     # 467 by 334 and 333, rests 567 and 100
            share 1 2 3 = 233
            share 1 0 2 = 333
            ticks 1 = 1
            share 2 0 1 = 1000
            noted 2 0 0 = 0
            """);
    }

    private static void learnt() {
        Script.run("19 learnt", """
            learnt 8 0 9 = -1
            learnt 0 -1 0 = -1
            learnt 0 0 3 = -2
            learnt 0 1 9 = -2
            learnt 0 1 18 = -2
            learnt 0 1 -1 = -2
            learnt 0 0 0 = -3
            learnt 0 0 10 = -3
            learnt 0 1 0 = -9
            learnt 0 1 10 = -9
            link 0 1 3
            link 1 2 4
            link 0 2 9
            learnt 0 2 0 = -9     # 0, 1 and 0 again
            learnt 0 2 10 = -9
            raise 1 2 2 500 = 750
            learnt 0 2 0 = 7
            learnt 0 2 1 = 2
            learnt 0 2 2 = 7
            learnt 0 2 10 = 0
            learnt 0 2 11 = 1
            learnt 0 2 12 = 2
            learnt 0 2 13 = -9
            learnt 0 2 17 = -9
            raise 0 2 2 2 = 501
            learnt 0 2 0 = 9
            learnt 0 2 1 = 1
            learnt 0 2 2 = 5
            learnt 0 2 11 = 2
            delay 2 11
            learnt 0 2 0 = 11
            learnt 5 0 0 = -9
            learnt 0 5 0 = -9
            learnt 2 1 2 = 7      # of like shares the least: 2, 0, 1
            link 3 4 5
            learnt 4 3 2 = 24
            learnt 4 3 10 = 4
            """);
    }

    private static void learntOverAllNodes() {
        StringBuilder lines = new StringBuilder("floor 0\n");
        for (int i = 0; i < 7; i++) {
            lines.append("link ").append(i).append(' ').append(i + 1).append(" 60\n");
        }
        for (int i = 1; i < 7; i++) {
            lines.append("raise ").append(i).append(" 7 ").append(i + 1).append(" 10\n");
        }
        Script.run("19 learnt over all nodes", lines + """
            learnt 0 7 0 = 420
            learnt 0 7 1 = 7
            learnt 0 7 2 = 255
            learnt 0 7 10 = 0
            learnt 0 7 17 = 7
            shortest 0 7 = 420
            even 3 7
            learnt 0 7 0 = -9
            """);
    }

    private static void shortest() {
        Script.run("20 shortest", """
            shortest 8 8 = -1
            shortest 0 -1 = -1
            shortest 0 0 = -3
            shortest 0 1 = -9
            link 0 1 3
            link 1 2 4
            link 0 2 9
            link 2 3 1
            link 5 6 1
            shortest 0 2 = 7
            shortest 2 0 = 7
            shortest 0 3 = 8
            shortest 0 5 = -9
            delay 2 6
            shortest 0 3 = 7
            cut 1
            shortest 1 3 = 10
            """);
    }

    private static void right() {
        Script.run("21 right", """
            right = 0
            link 0 1 3
            link 1 2 4
            link 0 2 9
            right = 3             # of 0 for 1 and 2, of 1 for 0
            raise 1 2 2 500
            right = 4
            delay 2 7
            right = 5             # both are shortest from 2 to 0
            link 3 4 60
            right = 7             # no way from 3 to 0, nor from 0 to 3
            """);
    }

    private static void rightOverSeveral() {
        Script.run("21 right over several", """
            link 0 1 1
            link 0 2 1
            link 1 3 1
            link 2 3 1
            right = 8             # not of 0 for 2, 1 for 3, 2 for 3, 3 for 2
            raise 0 3 2 1000
            right = 8             # from 0 to 3 both ways are shortest
            raise 0 1 2 1000      # 3 links instead of 1
            right = 7
            """);
    }

    /** That a shortest way comes by a neighbour later on is not enough: it must begin with that link. */
    private static void rightByTheNextStep() {
        Script.run("21 right by the next step", """
            link 0 1 1
            link 1 2 1
            link 2 3 1
            link 0 2 10
            right = 7             # not of 1 for 2 and 3, of 2 for 0, 1 and 3
            raise 0 3 2 1000
            right = 6             # over 2, but by 1, it is 3; by the link to 2 it is 11
            delay 3 2
            right = 8             # that is 3, too; and that of 2 to 0 is 2
            """);
    }

    private static void many() {
        Script.run("22 many", """
            many -1 = -2
            many 8 = -2
            link 0 1 5
            link 1 2 5
            send 0 0 1 = 0
            send 0 1 0            # one link or three
            send 0 5 0 = -9
            many 0 = 2
            many 1 = 2
            many 2 = 2
            many 3 = 0
            many 4 = 1
            many 5 = 0
            many 6 = 0
            many 7 = 2
            ticks 5 = 0
            many 1 = 2
            many 2 = 1
            ticks 1 = 1
            many 1 = 1
            many 3 = 1
            many 5 = 6
            many 6 = 5
            cut 1
            cut 0
            many 0 = 0
            many 1 = 0
            many 4 = 2
            """);
    }
}
