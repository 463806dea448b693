/** Promises 13 to 17: draws, walkers that go out and come back, what they remember. */
public final class WalkTest {
    private WalkTest() {
    }

    public static void main(String[] args) {
        seedAndDraws();
        sendIsRefusedInOrder();
        sendWithoutNeighbours();
        pickByShares();
        pickHeedsOnlyThoseGoingOut();
        pickOfWeightsThatAreNothing();
        crowdEitherWay();
        ticks();
        byTheirNumbers();
        walkerTold();
        loopsAreCut();
        lostAfter24Links();
        aimOnThe24thLink();
        backWithoutLink();
        backOverANewLink();
        Script.end();
    }

    private static void seedAndDraws() {
        Script.run("13 seed", """
            seed 7 = 1
            seed -2147483648 = 7
            seed 1 = -2147483648
            link 0 1 5
            send 0 0 1 = 0
            many 7 = 1
            seed 0 = 1103527590   # 1103515245 and 12345
            send 0 0 1 = 1
            seed -1 = 12345
            send 0 0 1 = 2
            seed 2 = -1103502900
            send 0 0 1 = 3
            seed 0 = -2087924461  # 2207042835 wraps
            many 7 = 4
            """);
    }

    private static void sendIsRefusedInOrder() {
        Script.run("14 send refused", """
            send 3 0 8 = -1
            send -1 -1 0 = -1
            send 3 0 0 = -2
            send -1 0 1 = -2
            send 0 0 0 = -3
            link 0 1 60
            send 0 0 1 = 0
            send 0 0 1 = 1
            send 1 0 1 = 2
            send 2 0 1 = 3
            send 0 1 0 = 4
            send 0 0 1 = 5
            send 0 0 1 = 6
            send 0 0 1 = 7
            send 0 0 1 = 8
            send 0 0 1 = 9
            send 0 0 1 = 10
            send 0 0 1 = 11
            send 0 0 1 = -4
            send 0 5 1 = -4       # that it would be lost does not matter
            send 0 1 1 = -3
            send 3 1 1 = -2
            many 1 = 12
            many 4 = 0
            many 7 = 12
            ticks 61 = 1
            send 0 0 1 = 0        # the least that is free
            walker 0 7 = 1
            walker 0 8 = 1
            """);
    }

    private static void sendWithoutNeighbours() {
        Script.run("14 send lost at once", """
            send 0 0 1 = -9
            send 2 5 1 = -9
            many 1 = 0
            many 4 = 2
            many 7 = 0
            link 0 1 5
            send 0 0 1 = 0
            """);
    }

    private static void pickByShares() {
        Script.run("14 pick", """
            link 0 1 50
            link 0 2 50
            link 0 4 50
            nextDraw 333
            send 0 0 7 = 0
            walker 0 5 = 1
            nextDraw 334
            send 0 0 7 = 1
            walker 1 5 = 2
            nextDraw 666
            send 0 0 7 = 2
            walker 2 5 = 2
            nextDraw 667
            send 0 0 7 = 3
            walker 3 5 = 4
            nextDraw 65535        # 535 is left of 1000
            send 0 0 7 = 4
            walker 4 5 = 2
            nextDraw 65000
            send 0 0 7 = 5
            walker 5 5 = 1
            many 7 = 6
            raise 0 7 4 1000 = 960
            nextDraw 39
            send 0 0 7 = 6
            walker 6 5 = 2
            nextDraw 40
            send 0 0 7 = 7
            walker 7 5 = 4
            nextDraw 40
            send 0 0 6 = 8        # another aim, another row
            walker 8 5 = 1
            """);
    }

    private static void pickHeedsOnlyThoseGoingOut() {
        Script.run("14 pick of the heedful", """
            link 0 1 5
            link 0 2 50
            link 0 3 50
            nextDraw 0
            send 0 0 1 = 0        # on the link to 1
            nextDraw 833          # 167, 333, 333 are 833 together
            send 1 0 1 = 1
            walker 1 5 = 1
            nextDraw 776          # 334 by 3 is 111: 777 together
            send 2 0 1 = 2
            walker 2 5 = 3
            nextDraw 277          # 111, 333, 166 are 610
            send 1 0 1 = 3
            walker 3 5 = 2
            nextDraw 610
            send 0 0 1 = 4        # a plain one heeds none
            walker 4 5 = 2
            ticks 5 = 0
            ofLink 0 3 = 1
            ofLink 0 4 = 1
            nextDraw 166          # only one goes out to 1; two by 2, one by 3: 167, 111, 166
            send 1 0 1 = 5
            walker 5 5 = 1
            ticks 1 = 1
            """);
    }

    private static void pickOfWeightsThatAreNothing() {
        Script.run("14 weights that are nothing", """
            floor 0
            link 2 0 5
            link 0 1 5
            link 1 7 5
            link 0 3 5
            raise 0 7 2 1000 = 1000
            send 0 2 7 = 0
            many 7 = 1
            ticks 5 = 0
            walker 0 5 = 1        # 2 has all the weight, and is remembered
            many 7 = 1
            ticks 5 = 0
            walker 0 5 = 7
            many 7 = 2
            """);
        Script.run("14 heedful weights that are nothing", """
            floor 0
            link 0 1 50
            link 0 2 50
            raise 0 7 1 1000 = 1000
            raise 0 7 2 1 = 1
            even 0 6
            send 0 1 7 = 0        # out on the link to 1, the other way
            nextDraw 999          # 999 by 2 is 499; 500 together
            send 1 0 7 = 1
            walker 1 5 = 2
            nextDraw 498          # 1 by 2 is nothing: 499 together
            send 1 0 7 = 2
            walker 2 5 = 1
            """);
        Script.run("14 weights that are 1 together", """
            floor 0
            link 0 1 50
            link 0 2 50
            link 0 3 5
            raise 0 7 1 1000 = 1000
            raise 0 7 2 1 = 1
            raise 0 7 3 998 = 998
            share 0 7 1 = 2
            share 0 7 2 = 0
            raise 0 7 2 1 = 1
            share 0 7 1 = 2
            share 0 7 3 = 997
            send 0 3 7 = 0
            many 7 = 1
            send 0 1 0 = 1
            send 0 1 0 = 2        # two on the link to 1: 2 by 3 is nothing
            many 7 = 3
            send 1 3 7 = 3
            cut 1 = 0             # so that 1 alone is left of those not remembered
            floor 0
            raise 0 7 3 1000 = 1000
            raise 0 7 1 1 = 1
            ticks 5 = 0
            many 7 = 5            # a draw of 1 is a draw
            walker 0 5 = 1
            ticks 1 = 0
            many 7 = 5            # 1 by 4 is nothing, and that no draw
            walker 3 5 = 1
            """);
        Script.run("14 node 0 is one like the others", """
            link 5 0 50
            link 5 6 50
            nextDraw 499
            send 0 5 7 = 0
            walker 0 5 = 0
            nextDraw 500
            send 0 5 7 = 1
            walker 1 5 = 6
            """);
    }

    private static void crowdEitherWay() {
        Script.run("14 crowd", """
            link 0 1 5
            send 0 0 1 = 0
            walker 0 6 = 5
            send 0 1 0 = 1
            walker 1 6 = 6
            send 1 0 1 = 2
            walker 2 6 = 7
            ticks 5 = 0
            send 2 0 1 = 3        # two that go out, one that comes back
            walker 3 6 = 12
            """);
    }

    private static void ticks() {
        Script.run("15 ticks", """
            ticks -1 = -2
            ticks 201 = -2
            ticks 0 = 0
            many 5 = 0
            ticks 200 = 0
            many 5 = 200
            link 0 1 5
            send 0 0 1 = 0
            send 0 0 1 = 1
            ticks 5 = 0
            ticks 1 = 1
            ticks 1 = 1
            ticks 1 = 0
            many 5 = 208
            many 3 = 2
            send 0 0 1 = 0
            send 0 0 1 = 1
            ticks 200 = 2
            """);
    }

    private static void byTheirNumbers() {
        Script.run("15 the later one is still on the link", """
            link 0 1 5 = 0
            link 0 2 5 = 1
            send 0 2 1 = 0
            nextDraw 0
            send 0 0 1 = 1
            walker 1 5 = 1
            ticks 5 = 0
            walker 0 6 = 11
            walker 1 3 = 1
            """);
        Script.run("15 the earlier one has turned", """
            link 0 1 5 = 0
            link 0 2 5 = 1
            nextDraw 0
            send 0 0 1 = 0
            send 0 2 1 = 1
            ticks 5 = 0
            walker 0 3 = 1
            walker 1 6 = 10
            """);
        Script.run("15 the earlier one begins first", """
            link 0 1 5 = 0
            link 2 0 5 = 1
            link 3 0 5 = 2
            floor 0
            raise 0 1 1 1000 = 1000
            send 0 2 1 = 0
            send 0 3 1 = 1
            ticks 5 = 0
            walker 0 6 = 10
            walker 1 6 = 11
            """);
    }

    private static void walkerTold() {
        Script.run("16, 17 walker and memory", """
            walker 0 0 = -1
            memory 0 0 0 = -1
            link 3 6 5 = 0
            link 6 2 4 = 1
            ticks 10
            send 2 3 2 = 0
            walker 0 0 = 2
            walker 0 1 = 3
            walker 0 2 = 2
            walker 0 3 = 0
            walker 0 4 = 0
            walker 0 5 = 6
            walker 0 6 = 15
            walker 0 7 = 1
            walker 0 8 = 1
            walker 0 9 = -2
            walker 0 -1 = -2
            walker 1 9 = -1
            walker -1 0 = -1
            walker 12 0 = -1
            memory 0 0 0 = 3
            memory 0 0 1 = 10
            memory 0 1 0 = -9
            memory 0 7 1 = -9
            memory 0 8 0 = -2
            memory 0 -1 0 = -2
            memory 0 0 2 = -2
            memory 0 0 -1 = -2
            memory 1 8 2 = -1
            memory -1 0 0 = -1
            memory 12 0 0 = -1
            ticks 5
            walker 0 3 = 0
            walker 0 4 = 1
            walker 0 5 = 2
            walker 0 6 = 19
            walker 0 7 = 2
            walker 0 8 = 2
            memory 0 1 0 = 6
            memory 0 1 1 = 15
            ticks 4
            walker 0 3 = 1
            walker 0 4 = 1
            walker 0 5 = 6
            walker 0 6 = 20
            walker 0 7 = 3
            walker 0 8 = 2
            memory 0 2 0 = 2
            memory 0 2 1 = 19
            ticks 1 = 0
            walker 0 4 = 0
            walker 0 5 = 3
            walker 0 6 = 21
            walker 0 7 = 3        # the memory stays as it is
            walker 0 8 = 2
            noted 6 2 2 = 4
            noted 3 2 0 = 0
            ticks 1 = 1
            noted 3 2 2 = 9
            walker 0 0 = -1
            many 6 = 9
            """);
    }

    private static void loopsAreCut() {
        Script.run("17 loops", """
            link 0 1 2
            link 1 2 3
            link 2 3 4
            floor 0
            send 0 0 7 = 0
            ticks 5 = 0
            walker 0 7 = 3        # 0, 1, 2
            ticks 4 = 0
            walker 0 7 = 4        # 3 too; from there back to 2
            walker 0 5 = 2
            raise 2 7 1 1000 = 1000
            ticks 4 = 0
            walker 0 7 = 3        # 3 is forgotten, so 2 leads to 3 again, whatever its share
            walker 0 5 = 3
            memory 0 2 0 = 2
            memory 0 2 1 = 5      # the time there stays
            memory 0 3 0 = -9
            link 3 7 1
            ticks 4 = 0
            memory 0 3 1 = 17
            walker 0 5 = 7
            ticks 1 = 0
            walker 0 7 = 5
            memory 0 4 0 = 7
            memory 0 4 1 = 18
            ticks 4 = 1
            noted 3 7 2 = 1
            noted 2 7 2 = 13
            noted 1 7 2 = 16
            noted 0 7 2 = 18
            many 6 = 18
            """);
    }

    private static void lostAfter24Links() {
        Script.run("14 lost after 24 links", """
            link 0 1 1
            send 0 0 7 = 0
            ticks 22 = 0
            walker 0 8 = 23
            ticks 1 = 0
            walker 0 8 = 24
            many 4 = 0
            many 7 = 24
            ticks 1 = 0
            walker 0 8 = -1
            many 1 = 0
            many 4 = 1
            many 7 = 24           # no draw
            """);
    }

    private static void aimOnThe24thLink() {
        Script.run("14 the aim on the 24th link", """
            link 0 1 1
            send 0 0 7 = 0
            ticks 22 = 0
            link 1 7 1
            ticks 2 = 0
            walker 0 8 = 24
            walker 0 3 = 1
            memory 0 1 1 = 23
            ticks 2 = 1
            noted 1 7 2 = 1
            share 1 7 7 = 650
            noted 0 7 2 = 24
            many 6 = 24
            many 4 = 0
            """);
    }

    private static void backWithoutLink() {
        Script.run("15 back without a link", """
            link 0 1 5
            link 1 2 5
            send 0 0 2 = 0
            ticks 10 = 0
            walker 0 3 = 1
            cut 0 = 0
            walker 0 5 = 1
            ticks 1 = 0
            noted 1 2 0 = 1       # it came there still
            many 4 = 1
            many 1 = 0
            many 3 = 0
            many 6 = 0
            """);
    }

    private static void backOverANewLink() {
        Script.run("15 back over a new link", """
            link 0 1 5 = 0
            link 1 2 5 = 1
            send 0 0 2 = 0
            ticks 10 = 0
            cut 0 = 0
            link 5 6 5 = 0
            link 1 0 60 = 2
            ticks 1 = 0
            walker 0 4 = 2
            walker 0 6 = 12       # one tick, whatever the delay
            ticks 1 = 1
            many 6 = 10
            """);
    }
}
