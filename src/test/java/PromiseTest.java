/** Each promise of the document with ordinary inputs, the edges that it names, and wrong inputs. */
final class PromiseTest extends Bench {
    private PromiseTest() {
    }

    private static void constants() {
        due("NO_SUCH", NO_SUCH, -1);
        due("BAD_VALUE", BAD_VALUE, -2);
        due("NOT_POSSIBLE", NOT_POSSIBLE, -3);
        due("LIMIT", LIMIT, -4);
        due("BAD_TEXT", BAD_TEXT, -5);
        due("NONE", NONE, -6);
    }

    private static void newObject() {
        VectorPens x = new VectorPens();
        due("strokes()", x.strokes(), 0);
        due("line()", x.line(), 0);
        due("syntaxError()", x.syntaxError(), 0);
        due("problem(0)", x.problem(0), NONE);
        due("undo()", x.undo(), NOT_POSSIBLE);
        due("digest()", x.digest(), 866L * 31 * 31);
        VectorPens other = drawn(SQUARE);
        due("strokes() beside another object", x.strokes(), 0);
        due("strokes() of the other one", other.strokes(), 1);
    }

    private static void down() {
        VectorPens x = new VectorPens();
        int[][] wrong = {{-1, 0}, {1000, 0}, {0, -1}, {0, 1000}, {MIN, 0}, {MAX, 0}, {0, MIN}, {0, MAX}};
        for (int[] w : wrong) {
            due("down out of range", x.down(w[0], w[1]), BAD_VALUE);
        }
        due("line()", x.line(), 0);
        due("down(999, 0)", x.down(999, 0), 0);
        due("line()", x.line(), 1);
        due("down(1, 1) with the pen down", x.down(1, 1), NOT_POSSIBLE);
        due("down(-1, 1) with the pen down", x.down(-1, 1), BAD_VALUE);
        due("draw(0, 999)", x.draw(0, 999), 2);
        x.lift();
        points(x, 0, 999000, 999);
        due("down(0, 0)", x.down(0, 0), 1);
        due("undo()", x.undo(), 3);
        due("line()", x.line(), 0);
        VectorPens full = full();
        due("down(0, 0) with ten strokes", full.down(0, 0), LIMIT);
        due("down(0, 1000) with ten strokes", full.down(0, 1000), BAD_VALUE);
        VectorPens nearly = full();
        nearly.down(0, 0);
        nearly.remove(9);
        due("down(0, 0) with nine", nearly.down(0, 0), 9);
        nearly.undo();
        VectorPens both = tenAndPenDown();
        due("down(0, 0) with the pen down and ten strokes", both.down(0, 0), NOT_POSSIBLE);
    }

    private static void draw() {
        VectorPens x = new VectorPens();
        due("draw(0, 0) with the pen up", x.draw(0, 0), NOT_POSSIBLE);
        due("draw(-1, 0) with the pen up", x.draw(-1, 0), BAD_VALUE);
        x.down(5, 5);
        due("draw(5, 5), the same point", x.draw(5, 5), NOT_POSSIBLE);
        int[][] wrong = {{-1, 0}, {1000, 0}, {0, -1}, {0, 1000}, {MIN, MIN}, {MAX, MAX}};
        for (int[] w : wrong) {
            due("draw out of range", x.draw(w[0], w[1]), BAD_VALUE);
        }
        due("line()", x.line(), 1);
        for (int i = 2; i <= 30; i++) {
            due("draw to a new point", x.draw(100 + i, 5), i);
        }
        due("draw a 31st point", x.draw(0, 0), LIMIT);
        due("draw the 30th point again", x.draw(130, 5), NOT_POSSIBLE);
        due("line()", x.line(), 30);
        due("undo()", x.undo(), 5);
        due("line() after undo()", x.line(), 29);
        due("draw(5, 5), which is not the last point", x.draw(5, 5), 30);
        due("lift()", x.lift(), 0);
        due("point(0, 28)", x.point(0, 28), 129005);
        due("point(0, 29)", x.point(0, 29), 5005);
    }

    private static void lift() {
        VectorPens x = new VectorPens();
        due("lift() with the pen up", x.lift(), NOT_POSSIBLE);
        x.down(1, 2);
        due("lift() of one point", x.lift(), NONE);
        due("strokes()", x.strokes(), 0);
        due("line()", x.line(), 0);
        due("undo() of a lift() with NONE", x.undo(), 1);
        due("line()", x.line(), 1);
        x.draw(3, 4);
        due("lift()", x.lift(), 0);
        points(x, 0, 1002, 3004);
        due("of(0, 1)", x.of(0, 1), 0);
        x.down(9, 9);
        x.draw(8, 8);
        due("lift()", x.lift(), 1);
        points(x, 1, 9009, 8008);
        VectorPens y = tenAndPenDown();
        due("lift() with ten strokes and one point", y.lift(), NONE);
        due("line()", y.line(), 0);
        VectorPens z = tenAndPenDown();
        z.draw(1, 0);
        due("lift() with ten strokes and two points", z.lift(), LIMIT);
        due("line()", z.line(), 2);
        z.remove(0);
        due("lift() with nine strokes", z.lift(), 9);
    }

    private static void line() {
        VectorPens x = new VectorPens();
        due("line()", x.line(), 0);
        x.down(0, 0);
        due("line()", x.line(), 1);
        x.draw(0, 1);
        x.draw(0, 2);
        due("line()", x.line(), 3);
        x.lift();
        due("line()", x.line(), 0);
    }

    private static void simplify() {
        VectorPens x = drawn("0,0-10,3-20,0", "0,0-10,3-20,0");
        due("simplify(2, 0)", x.simplify(2, 0), NO_SUCH);
        due("simplify(-1, 0)", x.simplify(-1, 0), NO_SUCH);
        due("simplify(2, -1)", x.simplify(2, -1), NO_SUCH);
        due("simplify(0, -1)", x.simplify(0, -1), BAD_VALUE);
        due("simplify(0, 201)", x.simplify(0, 201), BAD_VALUE);
        due("simplify(0, 2): 3 is greater", x.simplify(0, 2), 3);
        due("undo() of a simplify() that changed nothing", x.undo(), 2);
        due("simplify(0, 3): 3 is not greater", x.simplify(0, 3), 2);
        points(x, 0, 0, 20000);
        points(x, 1, 0, 10003, 20000);
        due("undo()", x.undo(), 2);
        points(x, 0, 0, 10003, 20000);
        // Behind the farthest point the pieces are looked at anew; the first of several is taken.
        VectorPens y = drawn("0,0-10,20-20,20-30,0-40,1-50,0");
        due("simplify(0, 5)", y.simplify(0, 5), 5);
        points(y, 0, 0, 10020, 20020, 30000, 50000);
        due("simplify(0, 8)", y.simplify(0, 8), 4);
        points(y, 0, 0, 10020, 30000, 50000);
        VectorPens z = drawn("0,0-0,50-3,50-103,0");
        due("simplify(0, 200)", z.simplify(0, 200), 2);
        VectorPens slant = drawn("0,0-1,1-2,5-4,4");
        due("simplify(0, 2): 12 / root(32) is more than 2", slant.simplify(0, 2), 3);
        due("simplify(0, 3)", slant.simplify(0, 3), 2);
        VectorPens close = drawn("0,0-0,3-1,1;0,0-1,1-2,0");
        due("simplify(0, 3)", close.ifSimplified(0, 3), 2);
        due("simplify(0, 2): 3 / root(2) is just more than 2", close.simplify(0, 2), 3);
        due("simplify(1, 0): 1 is more than 0", close.simplify(1, 0), 3);
        due("simplify(1, 1)", close.simplify(1, 1), 2);
        loops();
        closedOnes();
    }

    private static void loops() {
        VectorPens x = drawn("10,10-13,14-11,10-10,10");
        due("simplify(0, 4): the distance from the common end is 5", x.simplify(0, 4), 3);
        points(x, 0, 10010, 13014, 10010);
        due("simplify(0, 5): two equal points would follow", x.simplify(0, 5), 3);
        points(x, 0, 10010, 13014, 10010);
        VectorPens y = drawn("0,0-4,0-9,0-9,4-9,9-0,0");
        due("simplify(0, 0), equal ends: the farthest one, then lines", y.simplify(0, 0), 4);
        points(y, 0, 0, 9000, 9009, 0);
    }

    private static void closedOnes() {
        VectorPens x = drawn("0,0-5,0-10,0-10,10-5,10-0,10-0,5z");
        due("simplify(0, 0)", x.simplify(0, 0), 4);
        points(x, 0, 0, 10000, 10010, 10);
        due("of(0, 1)", x.of(0, 1), 1);
        due("simplify(0, 200): fewer than 3 points", x.simplify(0, 200), 4);
        points(x, 0, 0, 10000, 10010, 10);
        // The first one of the two farthest is kept, the other one is 8 from the piece.
        VectorPens y = drawn("0,0-9,9-9,18-18,9z");
        due("simplify(0, 8)", y.simplify(0, 8), 3);
        points(y, 0, 0, 9018, 18009);
        // Of (40, 30) and (30, 40), which are both 50 away, the first one is kept.
        VectorPens two = drawn("0,0-40,30-30,40-0,45z");
        due("simplify(0, 14)", two.simplify(0, 14), 3);
        points(two, 0, 0, 40030, 45);
        // The piece around from the farthest one to the first one: (0, 8) is on the other side.
        VectorPens z = drawn("0,0-10,0-5,1-0,8z");
        due("simplify(0, 3)", z.simplify(0, 3), 3);
        points(z, 0, 0, 10000, 8);
        // With 1 the last point would be equal to the first one.
        VectorPens last = drawn("5,5-90,5-50,50-5,5-4,5z");
        due("simplify(0, 1)", last.simplify(0, 1), 3);
        points(last, 0, 5005, 90005, 50050);
    }

    private static void weld() {
        VectorPens x = drawn("0,0-10,0;15,0-30,0");
        due("weld(0)", x.weld(0), BAD_VALUE);
        due("weld(1000)", x.weld(1000), BAD_VALUE);
        due("weld(4): the distance is 5", x.weld(4), 0);
        due("weld(5)", x.weld(5), 1);
        points(x, 0, 0, 12000);
        points(x, 1, 12000, 30000);
        due("weld(5): the distance is 0", x.weld(5), 0);
        due("undo()", x.undo(), 3);
        due("undo()", x.undo(), 2);
        points(x, 0, 0, 10000);
        due("undo() of a weld() that took nothing", x.undo(), 1);
        VectorPens near = drawn("0,500-10,500;11,500-30,500");
        due("weld(1)", near.weld(1), 1);
        VectorPens far = drawn("0,0-500,999;999,0-999,999");
        due("weld(498)", far.weld(498), 0);
        due("weld(499)", far.weld(499), 1);
        points(far, 0, 0, 749999);
        points(far, 1, 999000, 749999);
        VectorPens farthest = drawn("0,0-500,500-0,0;999,0-500,500-999,0");
        due("weld(998)", farthest.weld(998), 0);
        holds("weld(999) takes pairs", farthest.weld(999) > 0);
        VectorPens slant = drawn("0,0-10,10;13,15-50,50");
        due("weld(5): the distance is root(34)", slant.weld(5), 0);
        due("weld(6)", slant.weld(6), 1);
        points(slant, 0, 0, 11012);
        weldOrder();
        weldOwnEnds();
        weldBesides();
    }

    private static void weldOrder() {
        // The least distance first: 10 and 13, then 11 and 17 are too far for 4.
        VectorPens x = drawn("500,0-17,0;600,0-10,0;700,0-13,0");
        due("weld(4)", x.weld(4), 1);
        points(x, 0, 500000, 17000);
        points(x, 1, 600000, 11000);
        points(x, 2, 700000, 11000);
        // Three ends at equal distances: the pair whose first end, then second end comes first.
        VectorPens y = drawn("100,500-104,0;200,500-100,0;300,500-108,0");
        due("weld(4)", y.weld(4), 1);
        points(y, 0, 100500, 102000);
        points(y, 1, 200500, 102000);
        points(y, 2, 300500, 108000);
        // Other ends at the same place stay, and are welded on their own.
        VectorPens z = drawn("100,500-50,0;200,500-50,0;300,500-52,0");
        due("weld(2): 50 and 52, then 51 and 50, then 50 and 51", z.weld(2), 3);
        points(z, 0, 100500, 50000);
        points(z, 1, 200500, 50000);
        points(z, 2, 300500, 50000);
    }

    private static void weldOwnEnds() {
        VectorPens x = drawn("0,0-50,50-4,0");
        due("weld(9), a stroke of 3 points", x.weld(9), 0);
        VectorPens y = drawn("0,0-50,50-60,50-4,1");
        due("weld(9), a stroke of 4 points", y.weld(9), 1);
        points(y, 0, 2000, 50050, 60050, 2000);
        VectorPens z = drawn("0,0-50,50-60,50-4,1z");
        due("weld(9), a closed stroke", z.weld(9), 0);
        VectorPens pair = drawn("0,0-4,0");
        due("weld(9), a stroke of 2 points", pair.weld(9), 0);
    }

    private static void weldBesides() {
        VectorPens x = drawn("12,0-10,0;14,0-50,0");
        due("weld(2)", x.weld(2), 1);
        points(x, 0, 13000, 10000);
        points(x, 1, 13000, 50000);
        // 10 and 13 meet at 11, 13 and 11 at 12, 11 and 12 at 11; 12 and 11 would meet at 11, beside 12.
        due("weld(5)", x.weld(5), 3);
        points(x, 0, 12000, 11000);
        points(x, 1, 11000, 50000);
        VectorPens beside = drawn("500,500-12,0-10,0;14,0-500,0");
        due("weld(9): the first end would come to the point next to it", beside.weld(9), 0);
        VectorPens y = drawn("500,0-10,0;14,0-12,0");
        due("weld(2)", y.weld(2), 1);
        points(y, 0, 500000, 11000);
        points(y, 1, 14000, 11000);
        VectorPens z = drawn("500,0-500,9-10,0;14,0-12,0-500,500");
        due("weld(9): the second end would come to the point next to it", z.weld(9), 0);
    }

    private static void joinAll() {
        VectorPens x = drawn("0,0-1,0-2,0;2,0-3,0");
        due("joinAll()", x.joinAll(), 1);
        points(x, 0, 0, 1000, 2000, 3000);
        due("undo()", x.undo(), 1);
        due("strokes()", x.strokes(), 2);
        VectorPens back = drawn("2,0-1,0-0,0;3,0-2,0");
        due("joinAll(), first end and last end", back.joinAll(), 1);
        points(back, 0, 0, 1000, 2000, 3000);
        VectorPens fronts = drawn("2,0-1,0;2,0-3,0-4,0");
        due("joinAll(), two first ends", fronts.joinAll(), 1);
        points(fronts, 0, 1000, 2000, 3000, 4000);
        VectorPens backs = drawn("1,0-2,0;4,0-3,0-2,0");
        due("joinAll(), two last ends", backs.joinAll(), 1);
        points(backs, 0, 1000, 2000, 3000, 4000);
        VectorPens none = drawn("1,0-2,0;4,0-3,0");
        due("joinAll() without equal ends", none.joinAll(), 2);
        due("undo() of it", none.undo(), 1);
        joinOrder();
        joinToClosed();
        joinLimits();
    }

    private static void joinOrder() {
        // The common point of three: the first stroke takes the second one, the third is left over.
        VectorPens x = drawn("1,1-5,5;2,9-5,5;9,2-5,5;5,5-7,7");
        due("joinAll()", x.joinAll(), 2);
        points(x, 0, 1001, 5005, 2009);
        points(x, 1, 9002, 5005, 7007);
        // The first stroke's first point comes before its last one.
        VectorPens y = drawn("1,1-2,2;2,2-3,3;0,0-1,1");
        due("joinAll()", y.joinAll(), 1);
        points(y, 0, 0, 1001, 2002, 3003);
        VectorPens front = drawn("1,1-2,2-3,3;3,3-4,4-1,1");
        due("joinAll()", front.joinAll(), 1);
        points(front, 0, 3003, 2002, 1001, 4004);
        due("of(0, 1)", front.of(0, 1), 1);
        VectorPens z = drawn("1,0-2,0;50,0-60,0;2,0-3,0;70,0-80,0");
        due("joinAll()", z.joinAll(), 3);
        due("point(1, 0)", z.point(1, 0), 50000);
        due("point(2, 0)", z.point(2, 0), 70000);
    }

    private static void joinToClosed() {
        VectorPens x = drawn("0,0-9,0-9,9-0,0");
        due("joinAll()", x.joinAll(), 1);
        due("of(0, 1)", x.of(0, 1), 1);
        points(x, 0, 0, 9000, 9009);
        VectorPens y = drawn("0,0-9,0-0,0");
        due("joinAll(), 3 points", y.joinAll(), 1);
        due("of(0, 1)", y.of(0, 1), 0);
        points(y, 0, 0, 9000, 0);
        VectorPens z = drawn("0,0-9,0-0,0;0,0-5,5");
        due("joinAll(), the next pair", z.joinAll(), 1);
        points(z, 0, 0, 9000, 0, 5005);
        VectorPens parts = drawn("0,0-9,0;9,0-9,9;9,9-0,0");
        due("joinAll(), three sides", parts.joinAll(), 1);
        due("of(0, 1)", parts.of(0, 1), 1);
        due("of(0, 0)", parts.of(0, 0), 3);
        VectorPens ring = drawn("0,0-1,0;1,0-2,0;2,0-3,0;3,0-4,0;4,0-5,1", "5,1-4,2;4,2-3,2;3,2-2,2;2,2-1,2;1,2-0,0");
        due("joinAll(), ten parts of a ring", ring.joinAll(), 1);
        due("of(0, 0)", ring.of(0, 0), 10);
        due("of(0, 1)", ring.of(0, 1), 1);
        VectorPens closed = drawn("0,0-9,0-9,9z;0,0-5,5");
        due("joinAll(), a closed stroke", closed.joinAll(), 2);
    }

    private static void joinLimits() {
        VectorPens x = new VectorPens();
        zigzag(x, 16, 0);
        zigzag(x, 15, 100);
        due("move(1, 15, -99)", x.move(1, 15, -99), 15001);
        due("joinAll() of 31 points", x.joinAll(), 1);
        due("of(0, 0)", x.of(0, 0), 30);
        VectorPens y = new VectorPens();
        zigzag(y, 16, 0);
        zigzag(y, 16, 100);
        due("move(1, 15, -99)", y.move(1, 15, -99), 15001);
        due("joinAll() of 32 points", y.joinAll(), 2);
        due("of(0, 0)", y.of(0, 0), 16);
    }

    private static void move() {
        VectorPens x = drawn("1,2-3,4;" + SQUARE);
        due("move(2, 0, 0)", x.move(2, 0, 0), NO_SUCH);
        due("move(-1, 1000, 0)", x.move(-1, 1000, 0), NO_SUCH);
        int[][] wrong = {{1000, 0}, {-1000, 0}, {0, 1000}, {0, -1000}, {MIN, 0}, {0, MIN}, {MAX, MAX}};
        for (int[] w : wrong) {
            due("move out of range", x.move(0, w[0], w[1]), BAD_VALUE);
        }
        due("move(0, -2, 0)", x.move(0, -2, 0), NOT_POSSIBLE);
        due("move(0, 0, -3)", x.move(0, 0, -3), NOT_POSSIBLE);
        due("move(0, 997, 0)", x.move(0, 997, 0), NOT_POSSIBLE);
        due("move(0, 0, 996)", x.move(0, 0, 996), NOT_POSSIBLE);
        points(x, 0, 1002, 3004);
        due("move(0, 996, 995)", x.move(0, 996, 995), 997997);
        points(x, 0, 997997, 999999);
        due("move(0, -997, -997)", x.move(0, -997, -997), 0);
        points(x, 0, 0, 2002);
        due("move(1, 1, -10)", x.move(1, 1, -10), 11000);
        points(x, 1, 11000, 21000, 21010, 11010);
        due("of(1, 1)", x.of(1, 1), 1);
        due("undo()", x.undo(), 3);
        points(x, 1, 10010, 20010, 20020, 10020);
        VectorPens far = drawn("0,0-0,1;999,999-999,998");
        due("move(0, 999, 998)", far.move(0, 999, 998), 999998);
        due("move(1, -999, -998)", far.move(1, -999, -998), 1);
        VectorPens low = drawn("0,0-1,0;0,999-1,999");
        due("move(0, 0, 999)", low.move(0, 0, 999), 999);
        due("move(1, 0, -999)", low.move(1, 0, -999), 0);
    }

    private static void turn() {
        VectorPens x = drawn("50,50-60,50-60,53");
        due("turn(1, 0)", x.turn(1, 0), NO_SUCH);
        due("turn(0, 0)", x.turn(0, 0), BAD_VALUE);
        due("turn(0, 4)", x.turn(0, 4), BAD_VALUE);
        due("turn(0, 1)", x.turn(0, 1), 47060);
        points(x, 0, 50050, 50060, 47060);
        due("undo()", x.undo(), 1);
        due("turn(0, 2)", x.turn(0, 2), 40047);
        points(x, 0, 50050, 40050, 40047);
        x.undo();
        due("turn(0, 3)", x.turn(0, 3), 53040);
        points(x, 0, 50050, 50040, 53040);
        VectorPens edge = drawn("0,0-9,0-9,9");
        due("turn(0, 1): x would be negative", edge.turn(0, 1), NOT_POSSIBLE);
        due("turn(0, 2)", edge.turn(0, 2), NOT_POSSIBLE);
        due("turn(0, 3)", edge.turn(0, 3), NOT_POSSIBLE);
        points(edge, 0, 0, 9000, 9009);
        due("undo() after them", edge.undo(), 0);
        // Half a turn is possible where a quarter on the way there is not.
        VectorPens half = drawn("500,0-900,0");
        due("turn(0, 2)", half.turn(0, 2), 100000);
        due("turn(0, 3)", half.turn(0, 3), 500400);
        VectorPens top = drawn("500,999-500,500;500,999-501,999");
        due("turn(0, 2)", top.turn(0, 2), NOT_POSSIBLE);
        due("turn(1, 1)", top.turn(1, 1), NOT_POSSIBLE);
        due("turn(0, 1)", top.turn(0, 1), 999999);
    }

    private static void reverse() {
        VectorPens x = drawn("1,2-3,4-5,6;" + SQUARE);
        due("reverse(2)", x.reverse(2), NO_SUCH);
        due("reverse(-1)", x.reverse(-1), NO_SUCH);
        due("reverse(0)", x.reverse(0), 5006);
        points(x, 0, 5006, 3004, 1002);
        due("reverse(1)", x.reverse(1), 10020);
        points(x, 1, 10020, 20020, 20010, 10010);
        due("of(1, 1)", x.of(1, 1), 1);
        due("of(1, 4)", x.of(1, 4), 1);
        due("undo()", x.undo(), 2);
        due("undo()", x.undo(), 1);
        points(x, 0, 1002, 3004, 5006);
    }

    private static void close() {
        VectorPens x = drawn("1,1-2,1-2,2;1,1-2,2;1,1-2,2-1,1");
        due("close(3)", x.close(3), NO_SUCH);
        due("close(-1)", x.close(-1), NO_SUCH);
        due("close(1), 2 points", x.close(1), NOT_POSSIBLE);
        due("close(2), equal ends", x.close(2), NOT_POSSIBLE);
        due("close(0)", x.close(0), 3);
        due("of(0, 1)", x.of(0, 1), 1);
        due("close(0), closed", x.close(0), NOT_POSSIBLE);
        due("undo()", x.undo(), 1);
        due("of(0, 1)", x.of(0, 1), 0);
    }

    private static void split() {
        VectorPens x = drawn("1,1-2,2-3,3-4,4;5,5-6,6");
        due("split(2, 0)", x.split(2, 0), NO_SUCH);
        due("split(-1, 0)", x.split(-1, 0), NO_SUCH);
        due("split(0, 4)", x.split(0, 4), NO_SUCH);
        due("split(0, -1)", x.split(0, -1), NO_SUCH);
        due("split(0, 0)", x.split(0, 0), NOT_POSSIBLE);
        due("split(0, 3)", x.split(0, 3), NOT_POSSIBLE);
        due("split(0, 1)", x.split(0, 1), 3);
        points(x, 0, 1001, 2002);
        points(x, 1, 5005, 6006);
        points(x, 2, 2002, 3003, 4004);
        due("undo()", x.undo(), 1);
        points(x, 0, 1001, 2002, 3003, 4004);
        VectorPens closed = drawn(SQUARE, SQUARE);
        due("split(0, 2) of a closed stroke", closed.split(0, 2), 2);
        points(closed, 0, 20020, 10020, 10010, 20010, 20020);
        due("of(0, 1)", closed.of(0, 1), 0);
        due("split(1, 0) of a closed stroke", closed.split(1, 0), 2);
        points(closed, 1, 10010, 20010, 20020, 10020, 10010);
        due("split(1, 4)", closed.split(1, 4), NOT_POSSIBLE);
        VectorPens behind = drawn(SQUARE + ";1,1-2,2-3,3");
        behind.simplify(0, 0);
        due("split(1, 1) behind a change of a closed stroke", behind.split(1, 1), 3);
        due("of(2, 1)", behind.of(2, 1), 0);
        points(behind, 2, 2002, 3003);
        splitLimits();
    }

    private static void splitLimits() {
        VectorPens ten = drawn("0,0-1,1-2,2;1,0-2,1;2,0-3,1;3,0-4,1;4,0-5,1", "5,0-6,1;6,0-7,1;7,0-8,1;8,0-9,1;9,0-9,9-8,8z");
        due("split(0, 1) with ten strokes", ten.split(0, 1), LIMIT);
        due("split(0, 0) with ten strokes", ten.split(0, 0), NOT_POSSIBLE);
        due("split(0, 3) with ten strokes", ten.split(0, 3), NO_SUCH);
        due("split(9, 0), closed, with ten strokes", ten.split(9, 0), 10);
        VectorPens longest = new VectorPens();
        zigzag(longest, 30, 0);
        longest.close(0);
        due("split(0, 7), closed, 30 points", longest.split(0, 7), LIMIT);
        due("of(0, 1)", longest.of(0, 1), 1);
        VectorPens shorter = new VectorPens();
        zigzag(shorter, 29, 0);
        shorter.close(0);
        due("split(0, 7), closed, 29 points", shorter.split(0, 7), 1);
        due("of(0, 0)", shorter.of(0, 0), 30);
        due("point(0, 29)", shorter.point(0, 29), 7001);
    }

    private static void remove() {
        VectorPens x = drawn("1,1-2,2;3,3-4,4;5,5-6,6");
        due("remove(3)", x.remove(3), NO_SUCH);
        due("remove(-1)", x.remove(-1), NO_SUCH);
        due("remove(0)", x.remove(0), 2);
        points(x, 0, 3003, 4004);
        points(x, 1, 5005, 6006);
        due("point(2, 0)", x.point(2, 0), NO_SUCH);
        due("remove(1)", x.remove(1), 1);
        due("remove(0)", x.remove(0), 0);
        due("remove(0)", x.remove(0), NO_SUCH);
        due("undo()", x.undo(), 3);
        due("undo()", x.undo(), 2);
        due("undo()", x.undo(), 1);
        points(x, 0, 1001, 2002);
        points(x, 2, 5005, 6006);
    }

    private static void toTop() {
        VectorPens x = drawn("1,1-2,2;3,3-4,4;5,5-6,6");
        due("toTop(3)", x.toTop(3), NO_SUCH);
        due("toTop(-1)", x.toTop(-1), NO_SUCH);
        due("toTop(0)", x.toTop(0), 2);
        points(x, 0, 3003, 4004);
        points(x, 1, 5005, 6006);
        points(x, 2, 1001, 2002);
        due("toTop(2)", x.toTop(2), 2);
        points(x, 2, 1001, 2002);
        due("undo()", x.undo(), 2);
        due("undo()", x.undo(), 1);
        points(x, 0, 1001, 2002);
        points(x, 2, 5005, 6006);
    }

    private static void strokes() {
        VectorPens x = new VectorPens();
        due("strokes()", x.strokes(), 0);
        x.down(0, 0);
        x.draw(1, 1);
        due("strokes() before lift()", x.strokes(), 0);
        x.lift();
        due("strokes()", x.strokes(), 1);
        x.remove(0);
        due("strokes()", x.strokes(), 0);
        due("strokes()", full().strokes(), 10);
    }

    private static void of() {
        VectorPens x = drawn("10,10-20,15-13,40;10,10-20,15-13,40z;13,40-20,15-10,10z");
        due("of(3, 0)", x.of(3, 0), NO_SUCH);
        due("of(-1, 10)", x.of(-1, 10), NO_SUCH);
        due("of(0, -1)", x.of(0, -1), BAD_VALUE);
        due("of(0, 10)", x.of(0, 10), BAD_VALUE);
        due("of(0, MIN)", x.of(0, MIN), BAD_VALUE);
        // The pieces: root(12500) = 111, root(67400) = 259, root(90900) = 301.
        figures(x, 0, 3, 0, 370, 0, 2, 0, 10, 20, 10, 40);
        // 10 * 15 - 20 * 10 = -50, 20 * 40 - 13 * 15 = 605, 13 * 10 - 10 * 40 = -270.
        figures(x, 1, 3, 1, 671, 285, 3, 0, 10, 20, 10, 40);
        figures(x, 2, 3, 1, 671, 285, 1, 0, 10, 20, 10, 40);
        VectorPens bow = drawn("0,0-10,10-10,0-0,10z;0,0-10,10-10,0-0,10;0,0-9,9-8,7-6,6");
        figures(bow, 0, 4, 1, 482, 0, 2, 1);
        figures(bow, 1, 4, 0, 382, 0, 2, 1);
        // The last piece only touches the first one.
        due("of(2, 5)", bow.of(2, 5), 0);
        VectorPens star = drawn("50,0-80,90-0,35-100,35-20,90z");
        due("of(0, 5), a star", star.of(0, 5), 5);
        VectorPens long2 = drawn("0,0-999,999-0,0-999,999-0,0");
        due("of(0, 2)", long2.of(0, 2), 4 * 14127);
        due("of(0, 5), pieces on each other", long2.of(0, 5), 0);
        VectorPens whole = drawn("0,0-999,0-999,999-0,999z");
        figures(whole, 0, 4, 1, 39960, 1996002, 3, 0, 0, 999, 0, 999);
        VectorPens flat = drawn("0,0-5,0-9,0z");
        figures(flat, 0, 3, 1, 180, 0, 2, 0, 0, 9, 0, 0);
    }

    private static void point() {
        VectorPens x = drawn("1,2-999,999-0,0;007,08-9,0");
        due("point(0, 0)", x.point(0, 0), 1002);
        due("point(0, 1)", x.point(0, 1), 999999);
        due("point(0, 2)", x.point(0, 2), 0);
        due("point(1, 0)", x.point(1, 0), 7008);
        due("point(0, 3)", x.point(0, 3), NO_SUCH);
        due("point(0, -1)", x.point(0, -1), NO_SUCH);
        due("point(2, 0)", x.point(2, 0), NO_SUCH);
        due("point(-1, 0)", x.point(-1, 0), NO_SUCH);
        due("point(MIN, MAX)", x.point(MIN, MAX), NO_SUCH);
    }

    private static void crossings() {
        VectorPens x = drawn("0,0-10,10;0,10-10,0;5,5-9,0;0,0-20,20", "10,10-0,9-9,8-0,7z");
        due("crossings(0, 1)", x.crossings(0, 1), 1);
        due("crossings(1, 0)", x.crossings(1, 0), 1);
        due("crossings(0, 2), an end on the piece", x.crossings(0, 2), 0);
        due("crossings(0, 3), on the same line", x.crossings(0, 3), 0);
        due("crossings(0, 4), closed", x.crossings(0, 4), 2);
        due("crossings(3, 4), closed", x.crossings(3, 4), 2);
        due("crossings(0, 0)", x.crossings(0, 0), BAD_VALUE);
        due("crossings(5, 5)", x.crossings(5, 5), NO_SUCH);
        due("crossings(0, 5)", x.crossings(0, 5), NO_SUCH);
        due("crossings(-1, 0)", x.crossings(-1, 0), NO_SUCH);
        VectorPens apart = drawn("0,0-5,5;0,20-20,0;0,0-0,9;9,0-9,9;0,5-4,5");
        due("crossings(0, 1), too short", apart.crossings(0, 1), 0);
        due("crossings(2, 3), parallel", apart.crossings(2, 3), 0);
        due("crossings(2, 4), a touch", apart.crossings(2, 4), 0);
        due("crossings(3, 4), too short", apart.crossings(3, 4), 0);
        due("crossings(4, 2), a touch", apart.crossings(4, 2), 0);
        VectorPens wide = drawn("0,0-999,999;0,999-999,0;0,1-999,998");
        due("crossings(0, 1)", wide.crossings(0, 1), 1);
        due("crossings(0, 2)", wide.crossings(0, 2), 1);
    }

    private static void nearest() {
        VectorPens x = new VectorPens();
        due("nearest(0, 0) without strokes", x.nearest(0, 0), NONE);
        due("nearest(-1, 0) without strokes", x.nearest(-1, 0), BAD_VALUE);
        VectorPens y = drawn("10,10-20,10-30,10;40,10-50,10-20,10");
        int[][] wrong = {{-1, 0}, {1000, 0}, {0, -1}, {0, 1000}, {MIN, MAX}};
        for (int[] w : wrong) {
            due("nearest out of range", y.nearest(w[0], w[1]), BAD_VALUE);
        }
        due("nearest(0, 0)", y.nearest(0, 0), 0);
        due("nearest(20, 50), two of the same", y.nearest(20, 50), 1);
        due("nearest(15, 10), two at 5", y.nearest(15, 10), 0);
        due("nearest(35, 10), two at 5", y.nearest(35, 10), 2);
        due("nearest(41, 0)", y.nearest(41, 0), 100);
        due("nearest(999, 999)", y.nearest(999, 999), 101);
        due("nearest to the tenth stroke", full().nearest(11, 1), 901);
    }

    private static void isInside() {
        VectorPens x = drawn(SQUARE + ";0,0-1,1-5,0", "0,0-10,0-5,10z");
        due("isInside(3, 0, 0)", x.isInside(3, 0, 0), NO_SUCH);
        due("isInside(3, -1, 0)", x.isInside(3, -1, 0), NO_SUCH);
        due("isInside(1, -1, 0), open", x.isInside(1, -1, 0), BAD_VALUE);
        due("isInside(1, 1000, 0), open", x.isInside(1, 1000, 0), BAD_VALUE);
        due("isInside(0, 0, -1)", x.isInside(0, 0, -1), BAD_VALUE);
        due("isInside(0, 0, 1000)", x.isInside(0, 0, 1000), BAD_VALUE);
        due("isInside(1, 0, 0), open", x.isInside(1, 0, 0), NOT_POSSIBLE);
        int[][] places = {
            {15, 15, 1}, {9, 15, 0}, {21, 15, 0}, {15, 9, 0}, {15, 21, 0},
            {10, 15, 1}, {20, 15, 0}, {15, 10, 1}, {15, 20, 0}, {10, 10, 1}, {20, 20, 0}};
        for (int[] p : places) {
            due("isInside(0, " + p[0] + ", " + p[1] + ")", x.isInside(0, p[0], p[1]), p[2]);
        }
        due("isInside(2, 2, 4), on the left piece", x.isInside(2, 2, 4), 1);
        due("isInside(2, 1, 4)", x.isInside(2, 1, 4), 0);
        due("isInside(2, 8, 4), on the right piece", x.isInside(2, 8, 4), 0);
        due("isInside(2, 7, 4)", x.isInside(2, 7, 4), 1);
        due("isInside(2, 8, 3): the piece is at 8.5", x.isInside(2, 8, 3), 1);
        VectorPens bow = drawn("0,0-10,10-10,0-0,10z");
        due("isInside(0, 2, 5)", bow.isInside(0, 2, 5), 1);
        due("isInside(0, 5, 2)", bow.isInside(0, 5, 2), 0);
    }

    private static void ifSimplified() {
        VectorPens x = drawn("0,0-10,3-20,0;0,0-5,0-10,0-10,10-0,10z");
        long before = x.digest();
        due("ifSimplified(2, 0)", x.ifSimplified(2, 0), NO_SUCH);
        due("ifSimplified(2, 201)", x.ifSimplified(2, 201), NO_SUCH);
        due("ifSimplified(0, -1)", x.ifSimplified(0, -1), BAD_VALUE);
        due("ifSimplified(0, 201)", x.ifSimplified(0, 201), BAD_VALUE);
        due("ifSimplified(0, 2)", x.ifSimplified(0, 2), 3);
        due("ifSimplified(0, 3)", x.ifSimplified(0, 3), 2);
        due("ifSimplified(0, 200)", x.ifSimplified(0, 200), 2);
        due("ifSimplified(1, 0)", x.ifSimplified(1, 0), 4);
        due("ifSimplified(1, 200): it would not change", x.ifSimplified(1, 200), 5);
        due("digest()", x.digest(), before);
        due("undo(): nothing more was saved", x.undo(), 0);
    }

    private static void toleranceFor() {
        VectorPens x = drawn("0,0-10,3-20,0;0,0-5,0-10,0-10,10-0,10z");
        long before = x.digest();
        due("toleranceFor(2, 2)", x.toleranceFor(2, 2), NO_SUCH);
        due("toleranceFor(2, 1)", x.toleranceFor(2, 1), NO_SUCH);
        due("toleranceFor(0, 1)", x.toleranceFor(0, 1), BAD_VALUE);
        due("toleranceFor(0, 31)", x.toleranceFor(0, 31), BAD_VALUE);
        due("toleranceFor(0, 30)", x.toleranceFor(0, 30), 0);
        due("toleranceFor(0, 3)", x.toleranceFor(0, 3), 0);
        due("toleranceFor(0, 2)", x.toleranceFor(0, 2), 3);
        due("toleranceFor(1, 4)", x.toleranceFor(1, 4), 0);
        due("toleranceFor(1, 3)", x.toleranceFor(1, 3), NONE);
        due("toleranceFor(1, 2)", x.toleranceFor(1, 2), NONE);
        due("digest()", x.digest(), before);
        VectorPens far = drawn("0,0-300,200-600,0;0,0-300,201-600,0");
        due("toleranceFor(0, 2)", far.toleranceFor(0, 2), 200);
        due("toleranceFor(1, 2)", far.toleranceFor(1, 2), NONE);
        VectorPens slant = drawn("0,0-1,1-2,5-4,4");
        due("toleranceFor(0, 3): 3 / root(29) is 0.6", slant.toleranceFor(0, 3), 1);
        due("toleranceFor(0, 2): 12 / root(32) is 2.1", slant.toleranceFor(0, 2), 3);
        // With 5 and more the two ends would meet, and all points stay.
        VectorPens loop = drawn("10,10-13,14-11,10-10,10");
        due("toleranceFor(0, 3)", loop.toleranceFor(0, 3), 1);
        due("ifSimplified(0, 5)", loop.ifSimplified(0, 5), 4);
        due("toleranceFor(0, 2)", loop.toleranceFor(0, 2), NONE);
    }

    private static void ifWelded() {
        VectorPens x = drawn("0,0-10,0;15,0-30,0;30,0-40,40");
        long before = x.digest();
        due("ifWelded(0)", x.ifWelded(0), BAD_VALUE);
        due("ifWelded(1000)", x.ifWelded(1000), BAD_VALUE);
        due("ifWelded(4)", x.ifWelded(4), 2);
        due("ifWelded(5)", x.ifWelded(5), 1);
        due("digest()", x.digest(), before);
        due("undo(): nothing more was saved", x.undo(), 0);
        due("ifWelded(999) of nothing", x.ifWelded(999), 0);
        VectorPens near = drawn("0,0-10,0;11,0-30,0");
        due("ifWelded(1)", near.ifWelded(1), 1);
        VectorPens apart = drawn("0,0-0,9;999,0-999,9;0,500-0,501");
        due("ifWelded(10)", apart.ifWelded(10), 3);
    }

    private static void type() {
        VectorPens x = new VectorPens();
        int[] wrong = {32, 127, 0, -1, 49 + 65536, MIN, MAX};
        for (int code : wrong) {
            due("type(" + code + ")", x.type(code), BAD_VALUE);
        }
        due("type(33)", x.type(33), 1);
        due("type(126)", x.type(126), 2);
        for (int i = 3; i <= 80; i++) {
            due("type(49)", x.type(49), i);
        }
        due("type(49), the 81st", x.type(49), LIMIT);
        due("type(32), the 81st", x.type(32), BAD_VALUE);
        due("undo(): typing saves nothing", x.undo(), NOT_POSSIBLE);
        due("clearText()", x.clearText(), 80);
        due("type(49)", x.type(49), 1);
    }

    private static void clearText() {
        VectorPens x = new VectorPens();
        due("clearText()", x.clearText(), 0);
        type(x, "1,2-3,4");
        due("clearText()", x.clearText(), 7);
        due("clearText()", x.clearText(), 0);
        due("syntaxError()", x.syntaxError(), 0);
        due("read()", x.read(), BAD_TEXT);
        type(x, "5,6-7,8");
        due("read()", x.read(), 1);
        points(x, 0, 5006, 7008);
        due("undo()", x.undo(), 0);
        due("clearText(): undo() leaves the text", x.clearText(), 0);
    }

    private static void syntaxError() {
        String[] right = {"0,0-1,1", "000,999-1,01", "1,1-1,1", "1,2-3,4-5,6z", "1,2-3,4;5,6-7,8", "1,2-3,4-5,6z;1,2-3,4-5,6", SQUARE};
        for (String text : right) {
            VectorPens x = new VectorPens();
            type(x, text);
            due("syntaxError() of " + text, x.syntaxError(), NONE);
        }
        Object[][] wrong = {
            {"", 0}, {"1", 1}, {"1,", 2}, {"1,2", 3}, {"1,2-", 4}, {"1,2-3", 5}, {"1,2-3,", 6},
            {"1,2-3,4;", 8}, {"1,2-3,4;5", 9}, {"1,2-3,4;5,6", 11}, {"1,2-3,4-5,6z;", 13},
            {",", 0}, {"-", 0}, {";", 0}, {"z", 0}, {"a", 0}, {"Z", 0}, {"/", 0}, {":", 0}, {"1234", 3}, {"1-", 1}, {"1;", 1},
            {"1z", 1}, {"1,,", 2}, {"1,-2", 2}, {"1,z", 2}, {"1,;", 2}, {"1,2345", 5}, {"1,2,", 3}, {"1,2;", 3}, {"1,2z", 3},
            {"1,2--", 4}, {"1,2-;", 4}, {"1,2-z", 4}, {"1,2-,", 4}, {"1,2-3-", 5}, {"1,2-3,4z", 7}, {"1,2-3,4;z", 8},
            {"1,2-3,4;;", 8}, {"1,2-3,4;5,6;", 11}, {"1,2-3,4;5,6-7,8z", 15}, {"1,2-3,4-5,6zz", 12}, {"1,2-3,4-5,6z-", 12},
            {"1,2-3,4-5,6z1", 12}, {"1,2-3,4-5,6z,", 12}, {"1,2-3,4-5,6Z", 11}, {"1,2-3,4!", 7}, {"1,2-3,4-5,6z;7,8-9,9z", 20}};
        for (Object[] w : wrong) {
            VectorPens x = new VectorPens();
            type(x, (String) w[0]);
            due("syntaxError() of " + w[0], x.syntaxError(), (Integer) w[1]);
            due("read() of " + w[0], x.read(), BAD_TEXT);
        }
        VectorPens x = new VectorPens();
        type(x, "1,2-3,4-5,6-".repeat(6) + "12,12-34");
        due("syntaxError() of 80 signs that can't go on", x.syntaxError(), 80);
    }

    private static void read() {
        VectorPens x = new VectorPens();
        due("read() of nothing", x.read(), BAD_TEXT);
        type(x, "1,2-003,4;10,10-20,10-999,0z");
        due("read()", x.read(), 2);
        points(x, 0, 1002, 3004);
        points(x, 1, 10010, 20010, 999000);
        due("of(0, 1)", x.of(0, 1), 0);
        due("of(1, 1)", x.of(1, 1), 1);
        due("clearText()", x.clearText(), 0);
        due("undo()", x.undo(), 0);
        due("strokes()", x.strokes(), 0);
        type(x, "1,1-1,1");
        x.down(0, 0);
        due("read() with the pen down", x.read(), NOT_POSSIBLE);
        x.lift();
        due("read() of equal points", x.read(), NOT_POSSIBLE);
        due("clearText(): the text stays", x.clearText(), 7);
        type(x, "1,1-2,2-1,1z");
        due("read() of equal ends, closed", x.read(), NOT_POSSIBLE);
        type(x, "1,1-2,2-1,1");
        due("read() of equal ends, open", x.read(), 1);
        type(x, "0,0-1,1;0,0-1,1;0,0-1,1;0,0-1,1;0,0-1,1;0,0-1,1;0,0-1,1;0,0-1,1;0,0-1,1;0,0-0,1");
        due("read() of ten beside one", x.read(), LIMIT);
        due("strokes()", x.strokes(), 1);
        x.remove(0);
        due("read() of ten", x.read(), 10);
        points(x, 9, 0, 1);
        type(x, "0,0-1,1;1,1-1,1");
        due("read() of equal points and too many", x.read(), NOT_POSSIBLE);
        type(x, "0,0-1,1");
        due("read() of one too many", x.read(), LIMIT);
        type(x, "0,0-1,1;");
        due("read() of a wrong text", x.read(), BAD_TEXT);
        VectorPens many = drawn("0,0-1,0-2,0-3,0-4,0-5,0-6,0-7,0-8,0-9,0-0,1-1,1-2,1-3,1-4,1-5,1-6,1-7,1-8,1-9,1");
        due("of(0, 0)", many.of(0, 0), 20);
        due("point(0, 19)", many.point(0, 19), 9001);
    }

    private static void problem() {
        VectorPens x = new VectorPens();
        problems(x, NONE, NONE, NONE, NO_SUCH);
        due("problem(-1)", x.problem(-1), NO_SUCH);
        due("problem(MIN)", x.problem(MIN), NO_SUCH);
        x.read();
        problems(x, BAD_TEXT, NONE, NONE, NO_SUCH);
        type(x, "1,1-2,2;3,3-4,4-4,4-4,4;5,5-5,5");
        x.read();
        problems(x, NOT_POSSIBLE, 1, 2);
        type(x, "1,1-2,2-3,3-1,1z;5,5-5,5");
        x.read();
        problems(x, NOT_POSSIBLE, 0, 0);
        type(x, "1,1-2,2-2,2-1,1z");
        x.read();
        problems(x, NOT_POSSIBLE, 0, 2);
        x.draw(0, 0);
        x.undo();
        problems(x, NOT_POSSIBLE, 0, 2);
        type(x, "1,1-2,2");
        x.read();
        problems(x, NOT_POSSIBLE, 0, 2);
        x.undo();
        problems(x, NOT_POSSIBLE, 0, 2);
        type(x, "1,1-1,1");
        x.down(0, 0);
        x.read();
        problems(x, NOT_POSSIBLE, NONE, NONE);
        VectorPens full = full();
        type(full, "1,1-2,2");
        full.read();
        problems(full, LIMIT, NONE, NONE);
    }

    private static void undo() {
        VectorPens x = new VectorPens();
        due("undo()", x.undo(), NOT_POSSIBLE);
        x.down(0, 0);
        for (int i = 1; i <= 8; i++) {
            x.draw(i, 0);
        }
        for (int left = 5; left >= 0; left--) {
            due("undo()", x.undo(), left);
            due("line()", x.line(), 3 + left);
        }
        due("undo(), the seventh", x.undo(), NOT_POSSIBLE);
        due("line()", x.line(), 3);
        due("draw(9, 9)", x.draw(9, 9), 4);
        due("undo()", x.undo(), 0);
        VectorPens y = drawn("0,0-1,1");
        y.move(0, 1000, 0);
        y.draw(1, 1);
        y.weld(0);
        y.split(0, 0);
        y.close(0);
        due("undo(): error codes save nothing", y.undo(), 0);
        VectorPens z = drawn("0,0-9,9");
        type(z, "abc");
        z.read();
        due("undo()", z.undo(), 0);
        due("clearText(): the text is no part of the state", z.clearText(), 3);
        due("problem(0)", z.problem(0), BAD_TEXT);
    }

    private static void digest() {
        VectorPens x = new VectorPens();
        due("digest()", x.digest(), hash(0, 0));
        x.down(7, 7);
        due("digest()", x.digest(), hash(1, 0));
        VectorPens y = drawn("0,0-10,10;0,10-10,0-10,10z;0,5-10,6");
        y.down(1, 1);
        y.draw(2, 2);
        due("digest()", y.digest(), hash(2, 3,
            2, 0, 141, 0, 2, 0, 0, 10, 0, 10, 0, 10010,
            3, 1, 341, 100, 3, 0, 0, 10, 0, 10, 10, 10000, 10010,
            2, 0, 100, 0, 2, 0, 0, 10, 5, 6, 5, 10006,
            1, 1, 1));
        long before = y.digest();
        y.nearest(1, 1);
        due("digest() again", y.digest(), before);
    }

    public static void main(String[] args) {
        run("constants", PromiseTest::constants);
        run("1 new", PromiseTest::newObject);
        run("2 down", PromiseTest::down);
        run("3 draw", PromiseTest::draw);
        run("4 lift", PromiseTest::lift);
        run("5 line", PromiseTest::line);
        run("6 simplify", PromiseTest::simplify);
        run("7 weld", PromiseTest::weld);
        run("8 joinAll", PromiseTest::joinAll);
        run("9 move", PromiseTest::move);
        run("10 turn", PromiseTest::turn);
        run("11 reverse", PromiseTest::reverse);
        run("12 close", PromiseTest::close);
        run("13 split", PromiseTest::split);
        run("14 remove", PromiseTest::remove);
        run("15 toTop", PromiseTest::toTop);
        run("16 strokes", PromiseTest::strokes);
        run("17 of", PromiseTest::of);
        run("18 point", PromiseTest::point);
        run("19 crossings", PromiseTest::crossings);
        run("20 nearest", PromiseTest::nearest);
        run("21 isInside", PromiseTest::isInside);
        run("22 ifSimplified", PromiseTest::ifSimplified);
        run("23 toleranceFor", PromiseTest::toleranceFor);
        run("24 ifWelded", PromiseTest::ifWelded);
        run("25 type", PromiseTest::type);
        run("26 clearText", PromiseTest::clearText);
        run("27 syntaxError", PromiseTest::syntaxError);
        run("28 read", PromiseTest::read);
        run("29 problem", PromiseTest::problem);
        run("30 undo", PromiseTest::undo);
        run("31 digest", PromiseTest::digest);
        Check.end("PromiseTest");
    }
}
