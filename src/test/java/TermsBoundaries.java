/** A test for each sentence of the document's section "Terms" that names a boundary case. */
final class TermsBoundaries extends Bench {
    private TermsBoundaries() {
    }

    private static void test(String quote, Runnable test) {
        Sentences.test("Terms", quote, test);
    }

    // ---- values, points and strokes

    private static void lastCall() {
        VectorPens x = new VectorPens();
        x.down(1, 2);
        x.draw(3, 4);
        x.draw(5, 6);
        due("call 4: lift()", x.lift(), 0);
        for (int call = 5; call <= 508; call++) {
            due("call " + call + ": reverse(0)", x.reverse(0), call % 2 == 1 ? 5006 : 1002);
        }
        due("call 509: simplify(0, 0)", x.simplify(0, 0), 2);
        due("call 510: undo()", x.undo(), 5);
        due("call 511: of(0, 0)", x.of(0, 0), 3);
        due("call 512: point(0, 0)", x.point(0, 0), 1002);
    }

    private static void numberedFromZero() {
        VectorPens x = drawn("1,2-3,4-5,6", "7,8-9,9");
        due("point(0, 0), the first point of the first stroke", x.point(0, 0), 1002);
        due("point(0, 2), the last one of three", x.point(0, 2), 5006);
        due("point(0, 3)", x.point(0, 3), NO_SUCH);
        due("point(1, 1), of the last stroke", x.point(1, 1), 9009);
        due("point(2, 0)", x.point(2, 0), NO_SUCH);
        due("nearest(7, 8), the first point of the second stroke", x.nearest(7, 8), 100);
        due("crossings(0, 1)", x.crossings(0, 1), 0);
        due("crossings(1, 2)", x.crossings(1, 2), NO_SUCH);
        type(x, "1,1-2,2;3,3-3,3");
        x.read();
        problems(x, NOT_POSSIBLE, 1, 1);
    }

    private static void roundedDown() {
        int[][] pairs = {{0, 1, 0}, {1, 2, 1}, {998, 999, 998}, {0, 2, 1}, {7, 8, 7}, {7, 9, 8}};
        for (int[] p : pairs) {
            VectorPens x = drawn("500,500-" + p[0] + ",0;" + p[1] + ",0-400,500");
            due("weld(2) of " + p[0] + " and " + p[1], x.weld(2), 1);
            due("x of the first end", x.point(0, 1), 1000 * p[2]);
            due("x of the second end", x.point(1, 0), 1000 * p[2]);
            VectorPens y = drawn("500,500-0," + p[0] + ";0," + p[1] + "-400,500");
            due("weld(2) of " + p[0] + " and " + p[1] + " upward", y.weld(2), 1);
            due("y of the first end", y.point(0, 1), p[2]);
            due("y of the second end", y.point(1, 0), p[2]);
        }
    }

    private static void greatestRoot() {
        // The squared lengths times 100: 100, 200, 400; 2500 = 50 * 50, 2600 = 51 * 51 - 1; 40400 = 201 * 201 - 1.
        int[][] pieces = {{1, 0, 10}, {1, 1, 14}, {2, 0, 20}, {1, 2, 22}, {3, 4, 50}, {1, 5, 50}, {5, 0, 50},
            {20, 2, 200}, {20, 0, 200}, {7, 7, 98}, {999, 0, 9990}, {999, 1, 9990}, {998, 999, 14120},
            {999, 999, 14127}};
        for (int[] p : pieces) {
            VectorPens x = drawn("0,0-" + p[0] + "," + p[1]);
            due("of(0, 2) to (" + p[0] + ", " + p[1] + ")", x.of(0, 2), p[2]);
        }
    }

    private static void coordinates() {
        for (int v : new int[] {-1, 1000}) {
            keeps("down(" + v + ", 5)", VectorPens::new, x -> x.down(v, 5), BAD_VALUE);
            keeps("down(5, " + v + ")", VectorPens::new, x -> x.down(5, v), BAD_VALUE);
        }
        VectorPens x = new VectorPens();
        due("down(0, 999)", x.down(0, 999), 0);
        due("draw(999, 0)", x.draw(999, 0), 2);
        due("draw(0, 0)", x.draw(0, 0), 3);
        due("draw(999, 999)", x.draw(999, 999), 4);
        due("lift()", x.lift(), 0);
        points(x, 0, 999, 999000, 0, 999999);
    }

    private static void toldPoints() {
        VectorPens x = drawn("0,0-0,999-1,0-999,0-999,998-999,999");
        points(x, 0, 0, 999, 1000, 999000, 999998, 999999);
    }

    private static void tenStrokes() {
        VectorPens x = nine();
        zigzag(x, 3, 500);
        due("strokes() behind a tenth one", x.strokes(), 10);
        due("point(9, 2)", x.point(9, 2), 2500);
        due("down(0, 0)", x.down(0, 0), LIMIT);
        due("split(9, 1)", x.split(9, 1), LIMIT);
        type(x, "0,0-1,1");
        due("read()", x.read(), LIMIT);
        due("strokes()", x.strokes(), 10);
        due("remove(0)", x.remove(0), 9);
        due("read() beside nine", x.read(), 1);
    }

    private static void twoToThirtyPoints() {
        VectorPens one = penDown(1);
        due("lift() of one point", one.lift(), NONE);
        due("strokes()", one.strokes(), 0);
        VectorPens two = penDown(2);
        due("lift() of two points", two.lift(), 0);
        points(two, 0, 1005, 2005);
        VectorPens thirty = penDown(30);
        due("draw a 31st point", thirty.draw(0, 0), LIMIT);
        due("lift() of 30 points", thirty.lift(), 0);
        due("of(0, 0)", thirty.of(0, 0), 30);
        due("point(0, 29)", thirty.point(0, 29), 30005);
        due("point(0, 30)", thirty.point(0, 30), NO_SUCH);
    }

    private static void neverEqual() {
        keeps("draw(2, 5), where the pen is", () -> penDown(2), x -> x.draw(2, 5), NOT_POSSIBLE);
        int[][] beside = {{3, 5}, {1, 5}, {2, 4}, {2, 6}};
        for (int[] p : beside) {
            due("draw(" + p[0] + ", " + p[1] + ")", penDown(2).draw(p[0], p[1]), 3);
        }
        keepsButProblem("read() of two equal points", () -> typed("1,1-2,2-2,2"), VectorPens::read, NOT_POSSIBLE);
        due("read() of two points that don't follow one another", typed("1,1-2,2-1,1").read(), 1);
        keeps("close(0) with equal ends", () -> drawn("1,1-2,2-3,1-1,1"), x -> x.close(0), NOT_POSSIBLE);
        due("close(0) with ends that are not equal", drawn("1,1-2,2-3,1-1,2").close(0), 4);
    }

    private static void closedStrokes() {
        keeps("close(0) of 2 points", () -> drawn("0,0-3,4"), x -> x.close(0), NOT_POSSIBLE);
        VectorPens x = drawn("0,0-3,4-3,0");
        figures(x, 0, 3, 0, 90, 0, 2);
        due("close(0) of 3 points", x.close(0), 3);
        figures(x, 0, 3, 1, 120, 12, 1);
        due("read() of 2 points with z", typed("0,0-3,4z").read(), BAD_TEXT);
        due("read() of 3 points with z", typed("0,0-3,4-3,0z").read(), 1);
        due("read() of equal ends with z", typed("0,0-3,4-3,0-0,0z").read(), NOT_POSSIBLE);
        due("read() of equal ends without z", typed("0,0-3,4-3,0-0,0").read(), 1);
    }

    private static void endsOfOpenStrokes() {
        // (20, 20) is the last point of both strokes, but only an end of the open one.
        VectorPens x = drawn("0,0-20,0-20,20z;20,21-40,40");
        due("weld(9) beside a closed stroke", x.weld(9), 0);
        VectorPens y = drawn("0,0-20,0-20,20;20,21-40,40");
        due("weld(9) beside an open stroke", y.weld(9), 1);
        points(y, 0, 0, 20000, 20020);
        points(y, 1, 20020, 40040);
        VectorPens inner = drawn("0,0-20,20-40,0;20,21-40,40");
        due("weld(9) beside an inner point", inner.weld(9), 0);
        VectorPens among = drawn("0,0-20,0;100,0-200,0-200,200z;20,1-40,40;300,0-200,300-300,300z");
        due("weld(1) among closed strokes", among.weld(1), 1);
        points(among, 0, 0, 20000);
        points(among, 1, 100000, 200000, 200200);
        points(among, 2, 20000, 40040);
        points(among, 3, 300000, 200300, 300300);
        VectorPens first = drawn("20,20-20,0-0,0;40,40-20,21");
        due("weld(9) of a first and a last point", first.weld(9), 1);
        points(first, 0, 20020, 20000, 0);
    }

    private static void lowerByOne() {
        for (int gone = 0; gone < 3; gone++) {
            VectorPens x = drawn("1,1-2,2;3,3-4,4;5,5-6,6");
            due("remove(" + gone + ")", x.remove(gone), 2);
            due("point(0, 0)", x.point(0, 0), gone == 0 ? 3003 : 1001);
            due("point(1, 0)", x.point(1, 0), gone == 2 ? 3003 : 5005);
            due("point(2, 0)", x.point(2, 0), NO_SUCH);
        }
        VectorPens joined = drawn("1,1-2,2;7,7-8,8;2,2-3,3;5,5-6,6");
        due("joinAll()", joined.joinAll(), 3);
        points(joined, 0, 1001, 2002, 3003);
        points(joined, 1, 7007, 8008);
        points(joined, 2, 5005, 6006);
        due("of(3, 0)", joined.of(3, 0), NO_SUCH);
    }

    // ---- the pen

    private static void penIsUp() {
        keeps("draw(1, 1)", VectorPens::new, x -> x.draw(1, 1), NOT_POSSIBLE);
        keeps("lift()", VectorPens::new, VectorPens::lift, NOT_POSSIBLE);
        due("line()", new VectorPens().line(), 0);
        VectorPens x = new VectorPens();
        due("down(1, 1)", x.down(1, 1), 0);
        keeps("down(1, 1) with the pen down", () -> penDown(1), y -> y.down(1, 1), NOT_POSSIBLE);
        due("draw(2, 2)", x.draw(2, 2), 2);
    }

    private static void lineIsBegun() {
        VectorPens x = drawn("8,8-9,9");
        due("line()", x.line(), 0);
        due("down(3, 4)", x.down(3, 4), 1);
        due("line() has this point", x.line(), 1);
        due("strokes() has no line", x.strokes(), 1);
        due("draw(5, 6)", x.draw(5, 6), 2);
        due("lift()", x.lift(), 1);
        points(x, 1, 3004, 5006);
        due("down(7, 7), a line of its own", x.down(7, 7), 2);
        due("line()", x.line(), 1);
    }

    private static void atLeastTwoPoints() {
        VectorPens x = drawn("8,8-9,9-9,8z");
        x.down(1, 1);
        due("lift() of 1 point", x.lift(), NONE);
        due("strokes()", x.strokes(), 1);
        x.down(1, 1);
        x.draw(2, 2);
        due("lift() of 2 points", x.lift(), 1);
        due("of(1, 1), which is open", x.of(1, 1), 0);
        points(x, 1, 1001, 2002);
        points(x, 0, 8008, 9009, 9008);
    }

    private static void nothingComesOfIt() {
        VectorPens x = penDown(1);
        due("lift()", x.lift(), NONE);
        due("line(): the pen is up", x.line(), 0);
        due("draw(5, 5)", x.draw(5, 5), NOT_POSSIBLE);
        due("nearest(0, 0)", x.nearest(0, 0), NONE);
        due("digest()", x.digest(), hash(0, 0));
        due("down(2, 2)", x.down(2, 2), 0);
        due("draw(1, 1)", x.draw(1, 1), 2);
        due("lift()", x.lift(), 0);
        points(x, 0, 2002, 1001);
    }

    // ---- simplifying

    private static void farthestFromTheLine() {
        // The point is far from the piece, but 3 from the line through its ends.
        VectorPens x = drawn("10,500-500,503-20,500");
        due("simplify(0, 2)", x.simplify(0, 2), 3);
        due("simplify(0, 3)", x.simplify(0, 3), 2);
        points(x, 0, 10500, 20500);
        VectorPens near = drawn("0,0-1,1-3,2");
        due("simplify(0, 0): 1 / root(13) is more than 0", near.simplify(0, 0), 3);
        due("simplify(0, 1)", near.simplify(0, 1), 2);
        VectorPens least = drawn("0,50-30,56-60,58-90,50");
        due("simplify(0, 6): 8 is greater than 6", least.simplify(0, 6), 3);
        points(least, 0, 50, 60058, 90050);
    }

    private static void firstOfSeveral() {
        VectorPens same = drawn("0,50-30,58-60,58-90,50");
        due("simplify(0, 7): both are 8 away", same.simplify(0, 7), 3);
        points(same, 0, 50, 30058, 90050);
        VectorPens other = drawn("0,50-30,42-60,58-90,50");
        due("simplify(0, 13): both are less away", other.simplify(0, 13), 2);
        VectorPens second = drawn("0,50-30,58-60,59-90,50");
        due("simplify(0, 7): the second one is 9 away", second.simplify(0, 7), 3);
        points(second, 0, 50, 60059, 90050);
    }

    private static void equalEndsOfAPiece() {
        VectorPens x = drawn("10,10-13,14-11,10-10,10");
        due("simplify(0, 4): the first one is 5 away", x.simplify(0, 4), 3);
        points(x, 0, 10010, 13014, 10010);
        VectorPens several = drawn("10,10-13,14-7,6-10,10");
        due("simplify(0, 4): of two that are 5 away, the first one", several.simplify(0, 4), 3);
        points(several, 0, 10010, 13014, 10010);
        VectorPens second = drawn("10,10-13,14-7,5-10,10");
        due("simplify(0, 4): the second one is root(34) away", second.simplify(0, 4), 3);
        points(second, 0, 10010, 7005, 10010);
        // With ends that are not equal the same points are 4 and 0 from the line.
        VectorPens apart = drawn("10,10-13,14-11,10-9,10");
        due("simplify(0, 4)", apart.simplify(0, 4), 2);
    }

    private static void greaterThanTheTolerance() {
        VectorPens x = drawn("0,0-10,3-20,0;0,0-10,0-20,0;0,0-10,1-20,0", "0,0-300,200-600,0;0,0-300,201-600,0");
        int[][] cases = {{0, 2, 3}, {0, 3, 2}, {1, 0, 2}, {2, 0, 3}, {2, 1, 2}, {3, 199, 3}, {3, 200, 2}, {4, 200, 3}};
        for (int[] c : cases) {
            due("ifSimplified(" + c[0] + ", " + c[1] + ")", x.ifSimplified(c[0], c[1]), c[2]);
        }
        due("simplify(4, 200)", x.simplify(4, 200), 3);
        points(x, 4, 0, 300201, 600000);
        due("simplify(3, 200)", x.simplify(3, 200), 2);
        points(x, 3, 0, 600000);
    }

    private static void bothPieces() {
        // (50, 90) is taken; (25, 50) and (75, 50) are 2.4 from the pieces then, (20, 36) and (80, 36) nothing.
        VectorPens x = drawn("0,0-20,36-25,50-50,90-75,50-80,36-100,0");
        due("simplify(0, 2)", x.simplify(0, 2), 5);
        points(x, 0, 0, 25050, 50090, 75050, 100000);
        due("simplify(0, 3)", x.simplify(0, 3), 3);
        points(x, 0, 0, 50090, 100000);
        // (10, 0) and (10, 10) are equally far; the piece to the first one has a point on its line, the other a corner.
        VectorPens behind = drawn("0,0-5,0-10,0-10,10-20,10");
        due("simplify(0, 0): nothing is kept there, but something behind", behind.simplify(0, 0), 4);
        points(behind, 0, 0, 10000, 10010, 20010);
        VectorPens thirty = new VectorPens();
        zigzag(thirty, 30, 0);
        due("simplify(0, 0) of 30 points", thirty.simplify(0, 0), 30);
        due("simplify(0, 1) of 30 points", thirty.simplify(0, 1), 2);
        points(thirty, 0, 0, 29001);
    }

    private static void allLeftOut() {
        // (10, 1) and (20, 4) are both within 4 of the long line, and (10, 1) more than 0 from every piece.
        VectorPens x = drawn("0,0-10,1-20,4-30,1-40,0");
        due("ifSimplified(0, 3)", x.ifSimplified(0, 3), 3);
        due("simplify(0, 4)", x.simplify(0, 4), 2);
        points(x, 0, 0, 40000);
        // (20, 54) is 4 from the line, and (39, 47) 3; but from the piece to (20, 54) it is 10 away.
        VectorPens farther = drawn("0,50-39,47-20,54-40,50");
        due("ifSimplified(0, 3): both are kept", farther.ifSimplified(0, 3), 4);
        due("simplify(0, 4): neither is kept", farther.simplify(0, 4), 2);
        points(farther, 0, 50, 40050);
        VectorPens none = drawn("0,0-40,0");
        due("simplify(0, 0) without points between", none.simplify(0, 0), 2);
        due("simplify(0, 200) without points between", none.simplify(0, 200), 2);
        points(none, 0, 0, 40000);
    }

    private static void endsAreKept() {
        VectorPens x = drawn("5,5-6,6-5,6-6,5", "5,5-6,6");
        due("simplify(0, 200)", x.simplify(0, 200), 2);
        points(x, 0, 5005, 6005);
        due("of(0, 1)", x.of(0, 1), 0);
        due("simplify(1, 200)", x.simplify(1, 200), 2);
        points(x, 1, 5005, 6006);
    }

    private static void farthestOfAClosedStroke() {
        VectorPens two = drawn("0,0-40,30-30,40-0,45z");
        due("simplify(0, 15): both are 50 away", two.simplify(0, 15), 3);
        points(two, 0, 0, 40030, 45);
        VectorPens second = drawn("0,0-40,30-30,41-0,45z");
        due("simplify(0, 15): the second one is farther", second.simplify(0, 15), 3);
        points(second, 0, 0, 30041, 45);
        VectorPens last = drawn("0,0-5,40-10,2-90,0z");
        due("simplify(0, 35): the last point is the farthest one", last.simplify(0, 35), 3);
        points(last, 0, 0, 5040, 90000);
        VectorPens next = drawn("0,0-90,0-10,2-5,40z");
        due("simplify(0, 35): the point behind the first one is", next.simplify(0, 35), 3);
        points(next, 0, 0, 90000, 5040);
    }

    private static void aroundToTheFirst() {
        VectorPens x = drawn("0,0-10,0-5,1-0,8z");
        due("simplify(0, 7): (0, 8) is 8 from the line back", x.simplify(0, 7), 3);
        points(x, 0, 0, 10000, 8);
        VectorPens y = drawn("0,0-0,8-5,1-10,0z");
        due("simplify(0, 7): (0, 8) is 8 from the line there", y.simplify(0, 7), 3);
        points(y, 0, 0, 8, 10000);
        VectorPens z = drawn("0,0-0,8-5,1-10,0z");
        due("simplify(0, 8): it would have 2 points", z.simplify(0, 8), 4);
        due("of(0, 1)", z.of(0, 1), 1);
        VectorPens thirty = new VectorPens();
        thirty.down(0, 0);
        for (int i = 1; i < 15; i++) {
            thirty.draw(10 * i, i % 2);
        }
        for (int i = 0; i < 15; i++) {
            thirty.draw(145 - 10 * i, 100 + i % 2);
        }
        thirty.lift();
        due("close(0)", thirty.close(0), 30);
        due("ifSimplified(0, 0) of 30 points", thirty.ifSimplified(0, 0), 30);
        due("simplify(0, 2) of 30 points", thirty.simplify(0, 2), 4);
        points(thirty, 0, 0, 140000, 145100, 5100);
    }

    private static void exactDistances() {
        // (0, d) is d / root(2) from the line: 9 > 8, 49 < 50, 289 > 288, 1681 < 1682, 9801 > 9800, 57121 < 57122.
        int[][] cases = {{3, 3}, {7, 5}, {17, 13}, {41, 29}, {99, 71}, {239, 169}, {282, 200}};
        for (int[] c : cases) {
            for (String end : new String[] {"1,1", "500,500"}) {
                VectorPens x = drawn("0,0-0," + c[0] + "-" + end);
                due("ifSimplified(0, " + (c[1] - 1) + ") with " + c[0], x.ifSimplified(0, c[1] - 1), 3);
                due("ifSimplified(0, " + c[1] + ") with " + c[0], x.ifSimplified(0, c[1]), 2);
                due("toleranceFor(0, 2) with " + c[0], x.toleranceFor(0, 2), c[1]);
            }
        }
        // 283 / root(2) is 200.1; (50, 400) is 200 from the line to (600, 800), (50, 401) is 200.6.
        due("toleranceFor(0, 2)", drawn("0,0-0,283-500,500").toleranceFor(0, 2), NONE);
        due("toleranceFor(0, 2)", drawn("0,0-50,400-600,800").toleranceFor(0, 2), 200);
        due("toleranceFor(0, 2)", drawn("0,0-50,401-600,800").toleranceFor(0, 2), NONE);
        due("ifSimplified(0, 200)", drawn("0,0-0,999-999,999").ifSimplified(0, 200), 3);
        // Of two distances whose whole parts are equal the greater one is taken: 12 / root(2) and 13 / root(2).
        VectorPens x = drawn("0,0-0,12-50,63-500,500");
        due("simplify(0, 8)", x.simplify(0, 8), 3);
        points(x, 0, 0, 50063, 500500);
    }

    private static void noEqualNeighbours() {
        VectorPens x = drawn("10,10-13,14-11,10-10,10");
        due("simplify(0, 5): only the two ends would be left", x.simplify(0, 5), 4);
        points(x, 0, 10010, 13014, 11010, 10010);
        due("simplify(0, 200)", x.simplify(0, 200), 4);
        due("simplify(0, 4): (13, 14) is left too", x.simplify(0, 4), 3);
        points(x, 0, 10010, 13014, 10010);
        VectorPens beside = drawn("10,10-13,14-11,10-10,11");
        due("simplify(0, 5): the ends are not equal", beside.simplify(0, 5), 2);
    }

    private static void fewerThanThree() {
        VectorPens x = drawn("0,0-10,0-5,8-2,1z");
        due("simplify(0, 8): 2 points would be left", x.simplify(0, 8), 4);
        points(x, 0, 0, 10000, 5008, 2001);
        due("simplify(0, 7)", x.simplify(0, 7), 3);
        points(x, 0, 0, 10000, 5008);
        VectorPens open = drawn("0,0-10,0-5,8-2,1");
        due("simplify(0, 200) of an open stroke", open.simplify(0, 200), 2);
        VectorPens flat = drawn("0,0-5,0-10,0-7,0z");
        due("simplify(0, 0): all are on one line", flat.simplify(0, 0), 4);
    }

    private static void lastUnlikeFirst() {
        String[] loops = {"5,5-90,5-50,50-5,5-4,5z", "5,5-4,5-5,5-90,5-5,6z", "5,5-9,5-5,5-9,9-5,5-5,9z",
            "0,0-9,0-0,0-9,1z"};
        for (String loop : loops) {
            for (int t = 0; t <= 60; t++) {
                VectorPens x = drawn(loop);
                int n = x.simplify(0, t);
                holds(loop + " with " + t + " has " + n + " points", n >= 3 && n == x.of(0, 0));
                due("of(0, 1) of " + loop + " with " + t, x.of(0, 1), 1);
                for (int i = 0; i < n; i++) {
                    holds(loop + " with " + t + " at " + i, x.point(0, i) != x.point(0, (i + 1) % n));
                }
            }
        }
        VectorPens last = drawn("5,5-90,5-50,50-5,5-4,5z");
        due("simplify(0, 1): the equal point and the last one are left out", last.simplify(0, 1), 3);
        points(last, 0, 5005, 90005, 50050);
    }

    // ---- welding

    private static void withinReach() {
        int[][] cases = {{11, 10, 1}, {11, 11, 2}, {12, 10, 2}, {13, 14, 5}, {15, 10, 5}, {15, 11, 6}, {13, 15, 6},
            {16, 10, 6}};
        for (int[] c : cases) {
            String text = "0,0-10,10;" + c[0] + "," + c[1] + "-500,500";
            int middle = 1000 * ((10 + c[0]) / 2) + (10 + c[1]) / 2;
            if (c[2] > 1) {
                VectorPens less = drawn(text);
                due("weld(" + (c[2] - 1) + ") of " + text, less.weld(c[2] - 1), 0);
                points(less, 0, 0, 10010);
            }
            VectorPens x = drawn(text);
            due("weld(" + c[2] + ") of " + text, x.weld(c[2]), 1);
            points(x, 0, 0, middle);
            points(x, 1, middle, 500500);
        }
        VectorPens equal = drawn("0,0-10,10;10,10-500,500");
        due("weld(9): the distance is 0", equal.weld(9), 0);
        points(equal, 0, 0, 10010);
        String ring = "0,0-5,5-0,0;999,";
        due("weld(998)", drawn(ring + "0-990,9-999,0").weld(998), 0);
        holds("weld(999) takes pairs", drawn(ring + "0-990,9-999,0").weld(999) > 0);
        due("weld(999), but 1 upward", drawn(ring + "1-990,9-999,1").weld(999), 0);
    }

    private static void leastDistance() {
        // 10 and 13 are nearer than 13 and 17; then 17 is 6 from 11.
        VectorPens x = drawn("500,0-17,0;600,0-10,0;700,0-13,0");
        due("weld(5)", x.weld(5), 1);
        points(x, 0, 500000, 17000);
        points(x, 1, 600000, 11000);
        points(x, 2, 700000, 11000);
        VectorPens again = drawn("500,0-17,0;600,0-10,0;700,0-13,0");
        holds("weld(6) goes on with 17 and 11", again.weld(6) > 1);
    }

    private static void firstPair() {
        VectorPens second = drawn("100,500-104,0;200,500-100,0;300,500-108,0");
        due("weld(4): the first end has two at 4", second.weld(4), 1);
        points(second, 0, 100500, 102000);
        points(second, 1, 200500, 102000);
        points(second, 2, 300500, 108000);
        VectorPens first = drawn("100,500-104,0;200,500-96,0;300,500-100,0");
        due("weld(4): the last end has two at 4", first.weld(4), 1);
        points(first, 0, 100500, 102000);
        points(first, 1, 200500, 96000);
        points(first, 2, 300500, 102000);
        VectorPens nearer = drawn("100,500-104,0;200,500-97,0;300,500-100,0");
        due("weld(4): the second stroke's end is at 3", nearer.weld(4), 1);
        points(nearer, 0, 100500, 104000);
        points(nearer, 1, 200500, 98000);
        points(nearer, 2, 300500, 98000);
    }

    private static void orderOfEnds() {
        VectorPens x = drawn("100,0-100,500-108,500-108,0;104,0-104,900");
        due("weld(4): both ends are 4 away, the first point is taken", x.weld(4), 1);
        points(x, 0, 102000, 100500, 108500, 108000);
        points(x, 1, 102000, 104900);
        VectorPens back = drawn("108,0-108,500-100,500-100,0;104,0-104,900");
        due("weld(4)", back.weld(4), 1);
        points(back, 0, 106000, 108500, 100500, 100000);
        VectorPens moved = drawn("100,500-104,0;200,500-96,0;300,500-100,0");
        moved.toTop(0);
        due("weld(4): the order is that of the strokes now", moved.weld(4), 1);
        points(moved, 0, 200500, 98000);
        points(moved, 1, 300500, 98000);
        points(moved, 2, 100500, 104000);
    }

    /** Eight strokes whose ends are far from one another, and two more. */
    private static VectorPens tenFar(String two) {
        VectorPens x = drawn("0,0-0,500;100,0-100,500;200,0-200,500;300,0-300,500", "400,0-400,500;500,0-500,500");
        type(x, "600,0-600,500;700,0-700,500;" + two);
        due("read()", x.read(), 4);
        return x;
    }

    private static void lastStrokesWeld() {
        VectorPens x = tenFar("850,0-850,500;853,500-853,900");
        due("weld(2)", x.weld(2), 0);
        due("weld(3) of the ninth and the tenth stroke", x.weld(3), 1);
        points(x, 7, 700000, 700500);
        points(x, 8, 850000, 851500);
        points(x, 9, 851500, 853900);
        VectorPens last = tenFar("850,0-850,500;900,900-800,900-800,950-903,900");
        due("weld(3) of the tenth stroke's own ends", last.weld(3), 1);
        points(last, 9, 901900, 800900, 800950, 901900);
        VectorPens sameX = tenFar("0,998-850,500;900,900-0,999");
        due("weld(1) of a first and a last point", sameX.weld(1), 1);
        points(sameX, 8, 998, 850500);
        points(sameX, 9, 900900, 998);
    }

    private static void middleOfBoth() {
        VectorPens x = drawn("500,500-11,20;14,25-400,500");
        due("weld(6)", x.weld(6), 1);
        points(x, 0, 500500, 12022);
        points(x, 1, 12022, 400500);
        VectorPens corner = drawn("500,500-999,999;998,998-400,500");
        due("weld(2)", corner.weld(2), 1);
        points(corner, 0, 500500, 998998);
        points(corner, 1, 998998, 400500);
    }

    private static void othersStay() {
        // The second stroke's end is where the first one's was; it can't come to 52, where its neighbour is.
        VectorPens x = drawn("100,500-50,0;900,900-52,0-50,0;300,500-60,0");
        due("weld(10)", x.weld(10), 1);
        points(x, 0, 100500, 55000);
        points(x, 1, 900900, 52000, 50000);
        points(x, 2, 300500, 55000);
        VectorPens all = drawn("100,500-50,0;900,900-70,0-50,0;300,500-60,0");
        holds("weld(10) welds it on its own if it can", all.weld(10) > 1);
    }

    private static void ownEnds() {
        String[] few = {"0,0-4,0", "0,0-50,50-4,0"};
        for (String text : few) {
            VectorPens x = drawn(text);
            long before = x.digest();
            due("weld(9) of " + text, x.weld(9), 0);
            due("digest()", x.digest(), before);
        }
        VectorPens later = drawn("900,900-900,0;0,0-50,50-4,0;800,500-850,500-804,500");
        due("weld(9) of later strokes of 3 points", later.weld(9), 0);
        points(later, 1, 0, 50050, 4000);
        VectorPens four = drawn("0,0-50,50-60,50-4,0");
        due("weld(9) of 4 points", four.weld(9), 1);
        points(four, 0, 2000, 50050, 60050, 2000);
        VectorPens other = drawn("0,0-4,0;4,3-90,90");
        due("weld(3): its end with another stroke's", other.weld(3), 1);
        points(other, 0, 0, 4001);
        points(other, 1, 4001, 90090);
    }

    private static void besideItsNeighbour() {
        VectorPens first = drawn("500,500-12,0-10,0;14,0-500,0");
        due("weld(9): the first end would come to (12, 0)", first.weld(9), 0);
        points(first, 0, 500500, 12000, 10000);
        VectorPens firstFree = drawn("500,500-12,0-10,0;16,0-500,0");
        due("weld(9): it comes to (13, 0)", firstFree.weld(9), 1);
        points(firstFree, 0, 500500, 12000, 13000);
        VectorPens second = drawn("500,0-500,9-10,0;14,0-12,0-500,500");
        due("weld(9): the second end would come to (12, 0)", second.weld(9), 0);
        points(second, 1, 14000, 12000, 500500);
        VectorPens secondFree = drawn("500,0-500,9-10,0;16,0-12,0-500,500");
        due("weld(9)", secondFree.weld(9), 1);
        points(secondFree, 1, 13000, 12000, 500500);
        VectorPens begin = drawn("10,0-12,0-500,500;14,0-500,0");
        due("weld(9): a first point beside the second one", begin.weld(9), 0);
        VectorPens pair = drawn("12,0-10,0;14,0-14,500");
        due("weld(2): the end goes from 12 to 13", pair.weld(2), 1);
        points(pair, 0, 13000, 10000);
        // 13 and 15 meet at 14; then 10 and 18 would meet at 14 too, where the other end of 10's stroke has come.
        VectorPens come = drawn("10,0-13,0;15,0-12,0-500,500;18,0-16,0-600,600");
        due("weld(8): the point next to it has moved", come.weld(8), 1);
        points(come, 0, 10000, 14000);
        points(come, 1, 14000, 12000, 500500);
        points(come, 2, 18000, 16000, 600600);
        VectorPens apart = drawn("10,0-300,300-13,0;15,0-12,0-500,500;18,0-16,0-600,600");
        due("weld(8): where the other end has come, behind a point between them", apart.weld(8), 2);
        points(apart, 0, 14000, 300300, 14000);
        points(apart, 1, 14000, 12000, 500500);
        points(apart, 2, 14000, 16000, 600600);
        VectorPens gone = drawn("10,0-13,0;15,0-12,0-500,500;17,0-16,0-600,600");
        holds("weld(8): 10 and 17 meet at 13, where it was", gone.weld(8) > 1);
        VectorPens next = drawn("500,500-12,0-10,0;14,0-500,0;4,0-4,500");
        due("weld(6): the nearest pair is passed over, 10 and 4 are taken", next.weld(6), 1);
        points(next, 0, 500500, 12000, 7000);
        points(next, 1, 14000, 500000);
        points(next, 2, 7000, 4500);
    }

    // ---- joining

    private static void equalEndsAreJoined() {
        VectorPens beside = drawn("0,0-1,0;1,1-2,0;2,1-3,0");
        due("joinAll() of ends that are beside one another", beside.joinAll(), 3);
        VectorPens x = drawn("0,0-1,0;1,0-2,0;2,0-3,0");
        due("joinAll() of equal ends, as long as there are some", x.joinAll(), 1);
        points(x, 0, 0, 1000, 2000, 3000);
        VectorPens inner = drawn("0,0-1,0-2,0;1,0-1,5");
        due("joinAll() of an end on an inner point", inner.joinAll(), 2);
        VectorPens closed = drawn("0,0-9,0-9,9z;0,0-5,5;9,9-3,3");
        due("joinAll() at a closed stroke", closed.joinAll(), 3);
        // Of three ends at one place the first two are joined.
        VectorPens three = drawn("1,1-5,5;2,9-5,5;9,2-5,5");
        due("joinAll()", three.joinAll(), 2);
        points(three, 0, 1001, 5005, 2009);
        points(three, 1, 9002, 5005);
        // The first stroke's first point comes before its last one.
        VectorPens both = drawn("1,1-2,2;2,2-3,3;0,0-1,1");
        due("joinAll()", both.joinAll(), 1);
        points(both, 0, 0, 1001, 2002, 3003);
        VectorPens last = tenFar("850,0-850,500;850,500-853,900");
        due("joinAll() of the ninth and the tenth stroke", last.joinAll(), 9);
        points(last, 8, 850000, 850500, 853900);
        points(last, 7, 700000, 700500);
        VectorPens middle = drawn("50,50-60,60;1,1-2,2;70,70-80,80;1,1-3,3");
        due("joinAll() of the second and the fourth stroke", middle.joinAll(), 3);
        points(middle, 0, 50050, 60060);
        points(middle, 1, 2002, 1001, 3003);
        points(middle, 2, 70070, 80080);
    }

    private static void ownEndsAreJoined() {
        VectorPens three = drawn("0,0-9,0-0,0");
        due("joinAll() of 3 points", three.joinAll(), 1);
        figures(three, 0, 3, 0, 180);
        VectorPens four = drawn("0,0-9,0-9,9-0,0");
        due("joinAll() of 4 points", four.joinAll(), 1);
        points(four, 0, 0, 9000, 9009);
        due("of(0, 1)", four.of(0, 1), 1);
        VectorPens apart = drawn("0,0-9,0-9,9-0,1");
        due("joinAll() of ends that are not equal", apart.joinAll(), 1);
        due("of(0, 1)", apart.of(0, 1), 0);
        VectorPens last = tenFar("850,0-850,500;900,900-800,900-800,950-900,900");
        due("joinAll() of the tenth stroke's own ends", last.joinAll(), 10);
        points(last, 9, 900900, 800900, 800950);
        due("of(9, 1)", last.of(9, 1), 1);
        due("of(8, 1)", last.of(8, 1), 0);
        VectorPens later = drawn("900,900-900,0;0,0-9,0-0,0;1,1-8,0-8,8-1,1;2,2-7,0-7,7-2,2");
        due("joinAll() of the own ends of later strokes", later.joinAll(), 4);
        due("of(1, 1), 3 points", later.of(1, 1), 0);
        due("of(2, 1), 4 points", later.of(2, 1), 1);
        due("of(3, 1), 4 points", later.of(3, 1), 1);
        points(later, 3, 2002, 7000, 7007);
        VectorPens thirty = new VectorPens();
        zigzag(thirty, 29, 0);
        thirty.close(0);
        thirty.split(0, 0);
        due("of(0, 0)", thirty.of(0, 0), 30);
        due("joinAll() of 30 points", thirty.joinAll(), 1);
        figures(thirty, 0, 29, 1);
    }

    /** Two zigzags of so many points that meet at (first - 1, 1), where first is even. */
    private static VectorPens meeting(int first, int second) {
        VectorPens x = new VectorPens();
        zigzag(x, first, 0);
        zigzag(x, second, 100);
        due("move(1, ..)", x.move(1, first - 1, -99), 1000 * (first - 1) + 1);
        return x;
    }

    private static void thirtyOnePoints() {
        VectorPens x = meeting(16, 15);
        due("joinAll() of 31 points", x.joinAll(), 1);
        due("of(0, 0)", x.of(0, 0), 30);
        due("point(0, 15), which occurs once", x.point(0, 15), 15001);
        due("point(0, 16)", x.point(0, 16), 16002);
        due("point(0, 29)", x.point(0, 29), 29001);
        VectorPens y = meeting(16, 16);
        long before = y.digest();
        due("joinAll() of 32 points", y.joinAll(), 2);
        due("digest()", y.digest(), before);
        VectorPens most = meeting(30, 2);
        due("joinAll() of 30 and 2 points", most.joinAll(), 2);
        VectorPens nearly = meeting(28, 3);
        due("joinAll() of 28 and 3 points", nearly.joinAll(), 1);
        due("of(0, 0)", nearly.of(0, 0), 30);
    }

    private static void orderOfTheFirst() {
        String[] texts = {"0,0-1,0-2,0;2,0-3,0", "0,0-1,0-2,0;3,0-2,0"};
        for (String text : texts) {
            VectorPens x = drawn(text);
            due("joinAll() of " + text, x.joinAll(), 1);
            points(x, 0, 0, 1000, 2000, 3000);
        }
        String[] turned = {"2,0-1,0-0,0;2,0-3,0-4,1", "2,0-1,0-0,0;4,1-3,0-2,0"};
        for (String text : turned) {
            VectorPens x = drawn(text);
            due("joinAll() of " + text, x.joinAll(), 1);
            points(x, 0, 0, 1000, 2000, 3000, 4001);
        }
    }

    private static void passedOver() {
        VectorPens own = drawn("0,0-9,0-0,0;0,0-5,5");
        due("joinAll(): a stroke of 3 points is not closed, but joined", own.joinAll(), 1);
        points(own, 0, 0, 9000, 0, 5005);
        VectorPens x = meeting(16, 16);
        zigzag(x, 15, 200);
        x.move(2, 15, -199);
        due("joinAll(): 32 points are passed over, 31 are joined", x.joinAll(), 2);
        due("of(0, 0)", x.of(0, 0), 30);
        due("of(1, 0)", x.of(1, 0), 16);
        VectorPens y = meeting(16, 16);
        zigzag(y, 16, 200);
        y.move(2, 15, -199);
        due("joinAll(): all pairs have 32 points", y.joinAll(), 3);
    }

    // ---- crossings and measures

    private static int crossed(String first, String second) {
        return drawn(first + ";" + second).crossings(0, 1);
    }

    private static void oneCommonPoint() {
        String piece = "0,0-10,10";
        due("through it", crossed(piece, "0,10-10,0"), 1);
        due("just through it", crossed(piece, "5,4-9,10"), 1);
        due("an end on it", crossed(piece, "5,5-9,0"), 0);
        due("just short of it", crossed(piece, "5,4-9,0"), 0);
        due("its end on the other one", crossed(piece, "5,10-15,10"), 0);
        due("its end just short of the other one", crossed(piece, "5,11-15,10"), 0);
        due("its end just behind the other one", crossed(piece, "5,9-15,10"), 1);
        due("a common end", crossed(piece, "10,10-20,0"), 0);
        due("the same piece", crossed(piece, piece), 0);
        due("the same piece backward", crossed(piece, "10,10-0,0"), 0);
        due("more than one common point", crossed(piece, "5,5-20,20"), 0);
        due("the one inside the other", crossed(piece, "2,2-8,8"), 0);
        due("one behind the other", crossed(piece, "10,10-20,20"), 0);
        due("none, on the same line", crossed(piece, "11,11-20,20"), 0);
        due("none, beside it", crossed(piece, "1,0-11,10"), 0);
        due("at its end", crossed("0,0-5,5", "0,10-10,0"), 0);
        due("on the line behind its end", crossed("0,0-4,4", "0,10-10,0"), 0);
        due("corner to corner", crossed("0,0-999,999", "0,999-999,0"), 1);
        due("between the corners of a unit square", crossed("0,0-1,1", "0,1-1,0"), 1);
        due("and the other way round", crossed("0,1-1,0", "0,0-1,1"), 1);
        due("flatly", crossed("0,0-999,999", "0,1-999,998"), 1);
    }

    private static void pairsOfTwo() {
        due("two pieces of the second stroke", crossed("0,5-20,5", "5,0-10,10-15,0"), 2);
        due("two pieces of the first stroke", crossed("5,0-10,10-15,0", "0,5-20,5"), 2);
        due("where two pieces of it meet", crossed("0,5-20,5", "5,0-10,5-15,0"), 0);
        due("the piece that closes it", crossed("0,5-20,5", "5,0-10,9-15,9z"), 2);
        due("without the piece that closes it", crossed("0,5-20,5", "5,0-10,9-15,9"), 1);
        due("each pair", crossed("0,4-20,4-20,6-0,6", "5,0-5,10-15,10-15,0"), 4);
    }

    private static void pairsOfOne() {
        Object[][] texts = {{"0,0-10,10-10,0-0,10", 1}, {"10,10-0,10-10,0-0,0", 0}, {"10,10-0,10-10,0-0,0z", 1},
            {"0,0-9,0-5,0", 0}, {"0,0-9,0-9,9-5,0", 0}, {"0,1-9,1-9,9-5,0", 1}, {"50,0-80,90-0,35-100,35-20,90z", 5},
            {"50,0-80,90-0,35-100,35-20,90", 3}, {"0,0-9,9-0,0-9,9", 0}, {"0,0-9,0-9,9z", 0}, {"0,0-9,9", 0}};
        for (Object[] t : texts) {
            due("of(0, 5) of " + t[0], drawn((String) t[0]).of(0, 5), (Integer) t[1]);
        }
    }

    private static void sumOfLengths() {
        due("of(0, 2): each length is rounded", drawn("0,0-1,1-2,0-3,1").of(0, 2), 42);
        due("of(0, 2) of a closed stroke", drawn("0,0-1,1-2,0-3,1z").of(0, 2), 42 + 31);
        due("of(0, 2) of one piece", drawn("0,0-3,3").of(0, 2), 42);
        VectorPens longest = new VectorPens();
        longest.down(0, 0);
        for (int i = 1; i < 30; i++) {
            longest.draw(i % 2 * 999, i % 2 * 999);
        }
        longest.lift();
        due("of(0, 2) of 29 longest pieces", longest.of(0, 2), 29 * 14127);
        due("close(0)", longest.close(0), 30);
        due("of(0, 2) of 30 longest pieces", longest.of(0, 2), 30 * 14127);
    }

    private static void absoluteArea() {
        due("of(0, 3) in the one sense", drawn("0,0-3,0-0,4z").of(0, 3), 12);
        due("of(0, 3) in the other sense", drawn("0,4-3,0-0,0z").of(0, 3), 12);
        due("of(0, 3) of an open stroke", drawn("0,0-3,0-0,4").of(0, 3), 0);
        due("of(0, 3) of a flat stroke", drawn("0,0-3,3-9,9z").of(0, 3), 0);
        due("of(0, 3), an odd one", drawn("7,7-8,7-7,8z").of(0, 3), 1);
        due("of(0, 3), the whole", drawn("0,0-999,0-999,999-0,999z").of(0, 3), 1996002);
        due("of(0, 3), the whole in the other sense", drawn("0,999-999,999-999,0-0,0z").of(0, 3), 1996002);
        due("of(0, 3), twice around", drawn("0,0-9,0-9,9-0,9-0,0-9,0-9,9-0,9z").of(0, 3), 324);
    }

    private static void turningSense() {
        due("of(0, 4), positive", drawn("7,7-8,7-7,8z").of(0, 4), 3);
        due("of(0, 4), negative", drawn("7,8-8,7-7,7z").of(0, 4), 1);
        due("of(0, 4), 0", drawn("7,7-8,8-9,9z").of(0, 4), 2);
        due("of(0, 4), 0 by both senses", drawn("0,0-10,10-10,0-0,10z").of(0, 4), 2);
        due("of(0, 4), just negative", drawn("0,0-10,10-10,0-0,9z").of(0, 4), 1);
        due("of(0, 4), just positive", drawn("0,0-10,10-10,0-0,11z").of(0, 4), 3);
    }

    // ---- text, undo and error codes

    private static void eightyCharacters() {
        VectorPens x = new VectorPens();
        due("clearText() of a new text", x.clearText(), 0);
        for (int i = 1; i <= 80; i++) {
            due("type(33 + i % 90)", x.type(33 + i % 90), i);
        }
        due("type(49) behind 80", x.type(49), LIMIT);
        due("clearText()", x.clearText(), 80);
        due("type(49)", x.type(49), 1);
        due("clearText()", x.clearText(), 1);
    }

    private static void formOfADrawing() {
        Object[][] texts = {
            {"1,2", 3}, {"1,2-3,4", NONE}, {"1,2-3,4z", 7}, {"1,2-3,4-5,6z", NONE}, {"1,2-3,4-5,6", NONE},
            {"1,2-3,4;", 8}, {"1,2-3,4;5,6", 11}, {"1,2-3,4;5,6-7,8", NONE}, {"1,2-3,4;5,6-7,8z", 15},
            {"1,2-3,4-5,6z;5,6-7,8", NONE}, {";1,2-3,4", 0}, {"1,2;3,4", 3}, {"1,2-3,4-5,6zz", 12},
            {"1,2-3,4-5,6z-7,8", 12}};
        for (Object[] t : texts) {
            due("syntaxError() of " + t[0], typed((String) t[0]).syntaxError(), (Integer) t[1]);
        }
        due("the most strokes", typed("00,0-1,1" + ";0,0-1,1".repeat(9)).read(), 10);
        VectorPens most = typed("1,2-3,4-".repeat(9) + "5,6-7,8z");
        due("the most points", most.read(), 1);
        figures(most, 0, 20, 1);
    }

    private static void digitsOfANumber() {
        String[][] right = {{"1", "1"}, {"12", "12"}, {"123", "123"}, {"0", "0"}, {"999", "999"}};
        for (String[] n : right) {
            VectorPens x = typed(n[0] + ",5-7," + n[0]);
            due("read() with " + n[0], x.read(), 1);
            points(x, 0, 1000 * Integer.parseInt(n[1]) + 5, 7000 + Integer.parseInt(n[1]));
        }
        due("syntaxError(), 4 digits of an x", typed("1234,5-7,8").syntaxError(), 3);
        due("syntaxError(), 4 digits of a y", typed("1,2345-7,8").syntaxError(), 5);
        due("syntaxError(), 4 digits of the last y", typed("1,2-7,1000").syntaxError(), 9);
        due("syntaxError(), 4 zeros", typed("0000,2-7,1").syntaxError(), 3);
        due("syntaxError(), no digits of an x", typed(",5-7,8").syntaxError(), 0);
        due("syntaxError(), no digits of a y", typed("1,-7,8").syntaxError(), 2);
        due("syntaxError(), no digits of the last y", typed("1,2-7,").syntaxError(), 6);
    }

    private static void leadingZeros() {
        VectorPens x = typed("007,08-000,00-01,010");
        due("syntaxError()", x.syntaxError(), NONE);
        due("read()", x.read(), 1);
        points(x, 0, 7008, 0, 1010);
        keepsButProblem("read() of 1 and 001", () -> typed("1,2-001,02"), VectorPens::read, NOT_POSSIBLE);
    }

    private static void savedIfNoErrorCode() {
        String text = "0,0-1,1-2,0;50,50-59,50-50,59z;3,0-9,9;3,0-5,7-9,0-3,1";
        undoable(() -> drawn(text), x -> x.down(1, 1));
        undoable(() -> penDown(2), x -> x.draw(1, 5));
        undoable(() -> penDown(2), VectorPens::lift);
        undoable(() -> penDown(1), VectorPens::lift);
        undoable(() -> drawn(text), x -> x.simplify(0, 1));
        undoable(() -> drawn(text), x -> x.weld(2));
        undoable(() -> drawn(text), VectorPens::joinAll);
        undoable(() -> drawn(text), x -> x.move(0, 1, 2));
        undoable(() -> drawn(text), x -> x.turn(1, 3));
        undoable(() -> drawn(text), x -> x.reverse(1));
        undoable(() -> drawn(text), x -> x.close(0));
        undoable(() -> drawn(text), x -> x.split(0, 1));
        undoable(() -> drawn(text), x -> x.split(1, 1));
        undoable(() -> drawn(text), x -> x.remove(3));
        undoable(() -> drawn(text), x -> x.toTop(2));
        VectorPens read = typed("1,1-2,2");
        due("read()", read.read(), 1);
        due("undo()", read.undo(), 0);
        due("strokes()", read.strokes(), 0);
        // Without a change the state is saved too, with an error code it is not.
        VectorPens x = drawn("0,0-9,9");
        due("simplify(0, 0)", x.simplify(0, 0), 2);
        due("weld(1)", x.weld(1), 0);
        due("joinAll()", x.joinAll(), 1);
        due("move(0, 0, 0)", x.move(0, 0, 0), 0);
        due("toTop(0)", x.toTop(0), 0);
        due("close(0)", x.close(0), NOT_POSSIBLE);
        due("undo()", x.undo(), 5);
        due("remove(1)", x.remove(1), NO_SUCH);
        due("undo()", x.undo(), 4);
    }

    private static void sixStates() {
        for (int calls = 1; calls <= 8; calls++) {
            VectorPens x = new VectorPens();
            x.down(0, 0);
            for (int i = 1; i < calls; i++) {
                x.draw(i, 0);
            }
            for (int back = 1; back <= Math.min(6, calls); back++) {
                due("undo() behind " + calls + " calls", x.undo(), Math.min(6, calls) - back);
                due("line() behind " + calls + " calls and " + back + " back", x.line(), calls - back);
            }
            due("undo() behind " + calls + " calls, one more", x.undo(), NOT_POSSIBLE);
            due("line() behind " + calls + " calls", x.line(), Math.max(0, calls - 6));
        }
    }

    private static void oldestIsDiscarded() {
        VectorPens six = drawn("1,1-2,2");
        VectorPens seven = drawn("1,1-2,2");
        for (int i = 0; i < 5; i++) {
            six.move(0, 1, 0);
            seven.move(0, 1, 0);
        }
        seven.move(0, 1, 0);
        for (int left = 5; left >= 0; left--) {
            due("undo() of six", six.undo(), left);
            due("point(0, 0) of six then", six.point(0, 0), left == 0 ? NO_SUCH : 1000 * left + 1);
            due("undo() of seven", seven.undo(), left);
            due("point(0, 0) of seven then", seven.point(0, 0), 1000 * (left + 1) + 1);
        }
        due("strokes() before the first of six", six.strokes(), 0);
        due("strokes() before the second of seven", seven.strokes(), 1);
        points(seven, 0, 1001, 2002);
        due("undo() of seven", seven.undo(), NOT_POSSIBLE);
        // What is discarded by undo() makes room again.
        due("move(0, 5, 5)", seven.move(0, 5, 5), 6006);
        due("undo()", seven.undo(), 0);
        points(seven, 0, 1001, 2002);
    }

    private static void stateWithoutTheText() {
        VectorPens x = drawn("1,1-2,2");
        x.reverse(0);
        type(x, "5,5-5,5");
        x.read();
        due("undo()", x.undo(), 1);
        problems(x, NOT_POSSIBLE, 0, 1);
        due("syntaxError(): the text stays", x.syntaxError(), NONE);
        due("clearText(): the text stays", x.clearText(), 7);
        due("undo() behind clearText(): the read() before", x.undo(), 0);
        due("clearText(): the text that was read stays away", x.clearText(), 0);
        problems(x, NOT_POSSIBLE, 0, 1);
        VectorPens typing = new VectorPens();
        typing.type(49);
        typing.clearText();
        typing.syntaxError();
        typing.read();
        typing.problem(0);
        due("undo() behind calls with the text", typing.undo(), NOT_POSSIBLE);
        VectorPens line = penDown(3);
        due("lift()", line.lift(), 0);
        due("undo(): the line is part of the state", line.undo(), 3);
        due("line()", line.line(), 3);
        due("draw(3, 5), where the pen is", line.draw(3, 5), NOT_POSSIBLE);
        due("draw(3, 6)", line.draw(3, 6), 4);
        due("lift()", line.lift(), 0);
        points(line, 0, 1005, 2005, 3005, 3006);
    }

    private static void errorsChangeNothing() {
        keeps("down(-1, 0)", () -> drawn(SQUARE), x -> x.down(-1, 0), BAD_VALUE);
        keeps("down(0, 0) with ten strokes", TermsBoundaries::nineAndOneWithText, x -> x.down(0, 0), LIMIT);
        keeps("lift() with ten strokes", TermsBoundaries::tenAndALine, VectorPens::lift, LIMIT);
        keeps("close(0), closed", () -> drawn(SQUARE), x -> x.close(0), NOT_POSSIBLE);
        keeps("remove(1)", () -> drawn(SQUARE), x -> x.remove(1), NO_SUCH);
        keepsButProblem("read() of a wrong text", () -> typed("1,2-3"), VectorPens::read, BAD_TEXT);
        VectorPens x = typed("1,2-3");
        x.read();
        problems(x, BAD_TEXT, NONE, NONE);
        due("move(0, 0, 0)", x.move(0, 0, 0), NO_SUCH);
        problems(x, BAD_TEXT, NONE, NONE);
        due("clearText()", x.clearText(), 5);
    }

    private static VectorPens nineAndOneWithText() {
        VectorPens x = full();
        type(x, "1,2-3,4");
        return x;
    }

    private static VectorPens tenAndALine() {
        VectorPens x = tenAndPenDown();
        x.draw(7, 7);
        return x;
    }

    private static void firstNamedError() {
        due("down: BAD_VALUE before NOT_POSSIBLE", penDown(1).down(-1, 0), BAD_VALUE);
        due("down: BAD_VALUE before LIMIT", full().down(0, 1000), BAD_VALUE);
        due("down: NOT_POSSIBLE before LIMIT", tenAndPenDown().down(0, 0), NOT_POSSIBLE);
        due("draw: BAD_VALUE before NOT_POSSIBLE", new VectorPens().draw(0, -1), BAD_VALUE);
        due("draw: BAD_VALUE before LIMIT", penDown(30).draw(1000, 0), BAD_VALUE);
        due("draw: NOT_POSSIBLE before LIMIT", penDown(30).draw(30, 5), NOT_POSSIBLE);
        VectorPens one = drawn("1,1-2,2");
        due("simplify: NO_SUCH before BAD_VALUE", one.simplify(1, 201), NO_SUCH);
        due("move: NO_SUCH before BAD_VALUE", one.move(1, 1000, 0), NO_SUCH);
        due("move: BAD_VALUE before NOT_POSSIBLE", one.move(0, -2, 1000), BAD_VALUE);
        due("move: BAD_VALUE before NOT_POSSIBLE", one.move(0, -1000, 0), BAD_VALUE);
        due("turn: NO_SUCH before BAD_VALUE", one.turn(1, 0), NO_SUCH);
        due("turn: BAD_VALUE before NOT_POSSIBLE", drawn("0,0-9,9").turn(0, 4), BAD_VALUE);
        due("split: NO_SUCH before NOT_POSSIBLE", one.split(0, 2), NO_SUCH);
        due("split: NO_SUCH before LIMIT", full().split(0, 2), NO_SUCH);
        due("split: NOT_POSSIBLE before LIMIT", full().split(0, 0), NOT_POSSIBLE);
        due("of: NO_SUCH before BAD_VALUE", one.of(1, 10), NO_SUCH);
        due("crossings: NO_SUCH before BAD_VALUE", one.crossings(1, 1), NO_SUCH);
        due("nearest: BAD_VALUE before NONE", new VectorPens().nearest(1000, 0), BAD_VALUE);
        due("isInside: NO_SUCH before BAD_VALUE", one.isInside(1, -1, 0), NO_SUCH);
        due("isInside: BAD_VALUE before NOT_POSSIBLE", one.isInside(0, -1, 0), BAD_VALUE);
        due("ifSimplified: NO_SUCH before BAD_VALUE", one.ifSimplified(1, -1), NO_SUCH);
        due("toleranceFor: NO_SUCH before BAD_VALUE", one.toleranceFor(1, 1), NO_SUCH);
        due("type: BAD_VALUE before LIMIT", typed("1".repeat(80)).type(32), BAD_VALUE);
        VectorPens x = penDown(1);
        type(x, "1,1-1,1z");
        due("read: BAD_TEXT before NOT_POSSIBLE", x.read(), BAD_TEXT);
        VectorPens y = full();
        type(y, "1,1-1,1");
        due("read: NOT_POSSIBLE before LIMIT", y.read(), NOT_POSSIBLE);
        type(y, "1,1-1,");
        due("read: BAD_TEXT before LIMIT", y.read(), BAD_TEXT);
        due("problem: NO_SUCH before NONE", new VectorPens().problem(3), NO_SUCH);
    }

    private static void noneIsNoError() {
        VectorPens x = penDown(1);
        due("lift()", x.lift(), NONE);
        due("line(): it changed the state", x.line(), 0);
        due("undo(): it saved the state", x.undo(), 1);
        due("line()", x.line(), 1);
        VectorPens error = new VectorPens();
        due("lift() with the pen up", error.lift(), NOT_POSSIBLE);
        due("undo(): an error code saves nothing", error.undo(), NOT_POSSIBLE);
    }

    private static void forecastsChangeNothing() {
        String text = "0,0-10,3-20,0;22,0-30,0;30,2-40,40";
        keeps("ifSimplified(0, 200)", () -> drawn(text), x -> x.ifSimplified(0, 200), 2);
        keeps("toleranceFor(0, 2)", () -> drawn(text), x -> x.toleranceFor(0, 2), 3);
        keeps("ifWelded(2)", () -> drawn(text), x -> x.ifWelded(2), 1);
        keeps("ifWelded(1)", () -> drawn(text), x -> x.ifWelded(1), 3);
    }

    private static void constants() {
        test("`NO_SUCH = -1`: There is no such stroke or point", () -> due("NO_SUCH",
            new VectorPens().point(0, 0), -1));
        test("`BAD_VALUE = -2`: Another argument is out of its range", () -> due("BAD_VALUE",
            new VectorPens().weld(0), -2));
        test("`NOT_POSSIBLE = -3`: The call is not possible in the present state",
            () -> due("NOT_POSSIBLE", new VectorPens().lift(), -3));
        test("`LIMIT = -4`: A limit would be exceeded", () -> due("LIMIT", full().down(0, 0), -4));
        test("`BAD_TEXT = -5`: The text is not a drawing text", () -> due("BAD_TEXT", new VectorPens().read(), -5));
        test("`NONE = -6`: There is no such result", () -> due("NONE", new VectorPens().nearest(0, 0), -6));
    }

    static void strokesAndPen() {
        Sentences.test("What it is", "An object is used for at most 512 calls after it has been made",
            TermsBoundaries::lastCall);
        test("Everything is numbered from 0", TermsBoundaries::numberedFromZero);
        test("Division rounds toward zero", TermsBoundaries::roundedDown);
        test("root(n) is the greatest integer r for which r * r is at most n", TermsBoundaries::greatestRoot);
        test("A point has two coordinates x and y, 0 to 999 each", TermsBoundaries::coordinates);
        test("it is told as 1000 * x + y", TermsBoundaries::toldPoints);
        test("A drawing has at most 10 strokes", TermsBoundaries::tenStrokes);
        test("a stroke has 2 to 30 points", TermsBoundaries::twoToThirtyPoints);
        test("Two points of a stroke that follow one another are never equal", TermsBoundaries::neverEqual);
        test("a closed stroke has at least 3 points, its last point is not equal to its first point, and it has one "
            + "piece more",
            TermsBoundaries::closedStrokes);
        test("A stroke is open or closed", TermsBoundaries::closedStrokes);
        test("The ends of an open stroke are its first and its last point", TermsBoundaries::endsOfOpenStrokes);
        test("If a stroke is removed, the strokes behind it get numbers that are lower by 1",
            TermsBoundaries::lowerByOne);
        test("it is up in a new drawing program", TermsBoundaries::penIsUp);
        test("When the pen is put down at a point, a line of points with this point is begun",
            TermsBoundaries::lineIsBegun);
        test("the line becomes a new stroke, which is open and the last one, if it has at least 2 points",
            TermsBoundaries::atLeastTwoPoints);
        test("otherwise nothing comes of it", TermsBoundaries::nothingComesOfIt);
    }

    static void simplifying() {
        test("the one is taken whose distance from the line through a and b is the greatest",
            TermsBoundaries::farthestFromTheLine);
        test("is the greatest, the first one of several", TermsBoundaries::firstOfSeveral);
        test("if a and b are equal, the distance from a counts instead", TermsBoundaries::equalEndsOfAPiece);
        test("If there is such a point, and its distance is greater than t, it is kept",
            TermsBoundaries::greaterThanTheTolerance);
        test("the pieces from a to it and from it to b are simplified in the same way", TermsBoundaries::bothPieces);
        test("otherwise all points between a and b are left out", TermsBoundaries::allLeftOut);
        test("The first and the last point of an open stroke are kept", TermsBoundaries::endsAreKept);
        test("the first point is kept and the point that is farthest from it, the first one of several",
            TermsBoundaries::farthestOfAClosedStroke);
        test("the pieces between them, and from the second one around to the first one",
            TermsBoundaries::aroundToTheFirst);
        test("Distances are compared exactly, by their squares, without roots", TermsBoundaries::exactDistances);
        test("A stroke does not change if it would then have two equal points that follow one another",
            TermsBoundaries::noEqualNeighbours);
        test("or if it is closed and would then have fewer than 3 points", TermsBoundaries::fewerThanThree);
        test("or a last point that is equal to its first point", TermsBoundaries::lastUnlikeFirst);
    }

    static void weldingAndJoining() {
        test("whose distance is greater than 0 and at most r", TermsBoundaries::withinReach);
        test("the two ends with the least distance are taken", TermsBoundaries::leastDistance);
        test("of several pairs the one whose first end comes first, then the one whose second end comes first",
            TermsBoundaries::firstPair);
        test("The ends are ordered by strokes, and the first point of a stroke comes before its last one",
            TermsBoundaries::orderOfEnds);
        test("as long as there are two ends, of open strokes", TermsBoundaries::lastStrokesWeld);
        test("Both ends become the point whose coordinates are the sums of both coordinates divided by 2",
            TermsBoundaries::middleOfBoth);
        test("other ends at the same places stay where they are", TermsBoundaries::othersStay);
        test("Two ends of the same stroke are only welded if the stroke has at least 4 points",
            TermsBoundaries::ownEnds);
        test("A pair of ends is not taken if an end would become equal to the point next to it in its stroke",
            TermsBoundaries::besideItsNeighbour);
        test("as long as there are two equal ends of open strokes, the first pair of them is taken, in the order of "
            + "welding",
            TermsBoundaries::equalEndsAreJoined);
        test("If they are the two ends of the same stroke, which has at least 4 points",
            TermsBoundaries::ownEndsAreJoined);
        test("If they belong to two strokes that have at most 31 points together", TermsBoundaries::thirtyOnePoints);
        test("the order of the points of the first stroke stays as it is if the end is its last point, otherwise its "
            + "points are reversed before", TermsBoundaries::orderOfTheFirst);
        test("Other pairs are passed over", TermsBoundaries::passedOver);
    }

    static void measures() {
        test("Two pieces cross if they have exactly one common point, and this is an end of neither of them",
            TermsBoundaries::oneCommonPoint);
        test("The crossings of two strokes are the pairs of a piece of the one and a piece of the other that cross",
            TermsBoundaries::pairsOfTwo);
        test("the crossings of a stroke with itself are the pairs of two of its pieces that cross",
            TermsBoundaries::pairsOfOne);
        test("The length of a stroke is the sum of the lengths of its pieces", TermsBoundaries::sumOfLengths);
        test("The double area of a closed stroke is the absolute value of the sum", TermsBoundaries::absoluteArea);
        test("the sum itself is positive, negative or 0, which is the turning sense", TermsBoundaries::turningSense);
    }

    static void textAndErrors() {
        test("There is a text of at most 80 characters, which is empty initially", TermsBoundaries::eightyCharacters);
        test("with at least 2 points, or at least 3 points if it has the \"z\"", TermsBoundaries::formOfADrawing);
        test("A number has 1 to 3 digits", TermsBoundaries::digitsOfANumber);
        test("leading zeros are allowed", TermsBoundaries::leadingZeros);
        test("Methods marked \"Undoable\" save the state from before the call if they return no error code",
            TermsBoundaries::savedIfNoErrorCode);
        test("At most 6 states are saved", TermsBoundaries::sixStates);
        test("when a seventh one is saved, the oldest one is discarded", TermsBoundaries::oldestIsDiscarded);
        test("The state is everything except the text, the saved states and what problem() tells",
            TermsBoundaries::stateWithoutTheText);
        test("A call that returns NO_SUCH, BAD_VALUE, NOT_POSSIBLE, LIMIT or BAD_TEXT changes nothing but what "
            + "problem() tells",
            TermsBoundaries::errorsChangeNothing);
        test("If several of them apply, the one that is named first in the @return line is returned",
            TermsBoundaries::firstNamedError);
        test("NONE is not an error code", TermsBoundaries::noneIsNoError);
        test("they change nothing", TermsBoundaries::forecastsChangeNothing);
        constants();
    }
}
