/** A test for each sentence of the document's promises that names a boundary case. */
final class PromiseBoundaries extends Bench {
    private static String promise = "";

    private PromiseBoundaries() {
    }

    private static void test(String quote, Runnable test) {
        Sentences.test(promise, quote, test);
    }

    // ---- 1 to 5: a new object, the pen

    private static void emptyDrawing() {
        VectorPens x = new VectorPens();
        due("strokes()", x.strokes(), 0);
        due("line()", x.line(), 0);
        due("of(0, 0)", x.of(0, 0), NO_SUCH);
        due("nearest(0, 0)", x.nearest(0, 0), NONE);
        due("joinAll() of nothing", x.joinAll(), 0);
        due("weld(999) of nothing", x.weld(999), 0);
        due("ifWelded(999) of nothing", x.ifWelded(999), 0);
        due("digest()", x.digest(), 866L * 31 * 31);
        due("undo()", x.undo(), 1);
        drawn(SQUARE);
        due("strokes() beside another object's", x.strokes(), 0);
    }

    private static void newObject() {
        promise = "Promise 1";
        test("Creates a drawing program with an empty drawing", PromiseBoundaries::emptyDrawing);
    }

    private static void down() {
        promise = "Promise 2";
        test("- `x`: 0 to 999", () -> badValue(VectorPens::new, (x, v) -> x.down(v, 5), 0, 999));
        test("- `y`: 0 to 999", () -> badValue(VectorPens::new, (x, v) -> x.down(5, v), 0, 999));
        test("Returns the number of strokes", () -> {
            due("without strokes", new VectorPens().down(999, 999), 0);
            due("with one", drawn("1,1-2,2").down(0, 0), 1);
            due("with nine", nine().down(0, 0), 9);
        });
        test("BAD_VALUE if a coordinate is out of range", () -> {
            keeps("both", VectorPens::new, x -> x.down(1000, -1), BAD_VALUE);
            keeps("with the pen down", () -> penDown(2), x -> x.down(-1, 0), BAD_VALUE);
            keeps("with ten strokes", Bench::full, x -> x.down(0, 1000), BAD_VALUE);
        });
        test("NOT_POSSIBLE if the pen is down", () -> {
            keeps("behind down", () -> penDown(1), x -> x.down(9, 9), NOT_POSSIBLE);
            keeps("with 30 points", () -> penDown(30), x -> x.down(9, 9), NOT_POSSIBLE);
            keeps("with ten strokes", Bench::tenAndPenDown, x -> x.down(9, 9), NOT_POSSIBLE);
            VectorPens x = penDown(2);
            x.lift();
            due("behind lift", x.down(9, 9), 1);
            x.undo();
            x.undo();
            due("behind undo() of lift", x.down(9, 9), NOT_POSSIBLE);
        });
        test("LIMIT if there are 10 strokes", () -> {
            keeps("with ten", Bench::full, x -> x.down(0, 0), LIMIT);
            VectorPens x = full();
            x.remove(0);
            due("with nine", x.down(0, 0), 9);
        });
    }

    private static void draw() {
        promise = "Promise 3";
        test("- `x`: 0 to 999", () -> badValue(() -> penDown(1), (x, v) -> x.draw(v, 9), 0, 999));
        test("- `y`: 0 to 999", () -> badValue(() -> penDown(1), (x, v) -> x.draw(9, v), 0, 999));
        test("Returns the number of points of the line then", () -> {
            due("the second one", penDown(1).draw(999, 0), 2);
            due("the 30th one", penDown(29).draw(0, 999), 30);
        });
        test("BAD_VALUE if a coordinate is out of range", () -> {
            keeps("both", () -> penDown(2), x -> x.draw(-1, 1000), BAD_VALUE);
            keeps("with the pen up", VectorPens::new, x -> x.draw(0, 1000), BAD_VALUE);
            keeps("with 30 points", () -> penDown(30), x -> x.draw(0, -1), BAD_VALUE);
        });
        test("NOT_POSSIBLE if the pen is up", () -> {
            keeps("in a new object", VectorPens::new, x -> x.draw(1, 1), NOT_POSSIBLE);
            keeps("behind a stroke", () -> drawn("1,1-2,2"), x -> x.draw(1, 1), NOT_POSSIBLE);
            VectorPens x = penDown(3);
            x.lift();
            due("behind lift", x.draw(9, 9), NOT_POSSIBLE);
            x.undo();
            due("behind undo() of lift", x.draw(9, 9), 4);
        });
        test("or if the point is equal to the last point of the line", () -> {
            keeps("the only point", () -> penDown(1), x -> x.draw(1, 5), NOT_POSSIBLE);
            keeps("the last one of three", () -> penDown(3), x -> x.draw(3, 5), NOT_POSSIBLE);
            keeps("the last one of 30", () -> penDown(30), x -> x.draw(30, 5), NOT_POSSIBLE);
            due("the last but one", penDown(3).draw(2, 5), 4);
            due("the same x", penDown(3).draw(3, 6), 4);
            due("the same y", penDown(3).draw(4, 5), 4);
            due("the coordinates exchanged", penDown(3).draw(5, 3), 4);
        });
        test("LIMIT if the line has 30 points", () -> {
            keeps("30", () -> penDown(30), x -> x.draw(0, 0), LIMIT);
            VectorPens x = penDown(29);
            due("29", x.draw(0, 0), 30);
            due("30", x.draw(1, 1), LIMIT);
            due("lift()", x.lift(), 0);
            due("of(0, 0)", x.of(0, 0), 30);
        });
    }

    private static void lift() {
        promise = "Promise 4";
        test("Returns the number of the new stroke, or NONE if nothing comes of the line", () -> {
            due("1 point", penDown(1).lift(), NONE);
            due("2 points", penDown(2).lift(), 0);
            VectorPens x = nine();
            x.down(0, 0);
            x.draw(1, 1);
            due("the tenth stroke", x.lift(), 9);
        });
        test("NOT_POSSIBLE if the pen is up", () -> {
            keeps("in a new object", VectorPens::new, VectorPens::lift, NOT_POSSIBLE);
            keeps("with ten strokes", Bench::full, VectorPens::lift, NOT_POSSIBLE);
            VectorPens x = penDown(1);
            x.lift();
            due("behind a line of 1 point", x.lift(), NOT_POSSIBLE);
            VectorPens y = penDown(2);
            y.lift();
            due("behind a line of 2 points", y.lift(), NOT_POSSIBLE);
        });
        test("LIMIT if there are 10 strokes and the line has at least 2 points", () -> {
            keeps("ten and 2", () -> {
                VectorPens x = tenAndPenDown();
                x.draw(7, 7);
                return x;
            }, VectorPens::lift, LIMIT);
            due("ten and 1", tenAndPenDown().lift(), NONE);
            VectorPens x = tenAndPenDown();
            x.draw(7, 7);
            x.remove(3);
            due("nine and 2", x.lift(), 9);
            points(x, 9, 0, 7007);
        });
    }

    private static void line() {
        promise = "Promise 5";
        test("0 if the pen is up", () -> {
            keeps("in a new object", VectorPens::new, VectorPens::line, 0);
            keeps("behind a stroke", () -> drawn("1,1-2,2"), VectorPens::line, 0);
            keeps("1 if it is just down", () -> penDown(1), VectorPens::line, 1);
            keeps("with the most points", () -> penDown(30), VectorPens::line, 30);
            VectorPens x = penDown(30);
            x.lift();
            due("behind lift", x.line(), 0);
            x.undo();
            due("behind undo() of lift", x.line(), 30);
        });
    }

    // ---- 6 to 15: changing strokes

    private static final String THREE = "300,300-310,303-320,300;400,400-410,400;500,500-510,500-510,510z";

    private static VectorPens three() {
        return drawn(THREE);
    }

    private static void simplify() {
        promise = "Promise 6";
        test("- `tolerance`: 0 to 200", () -> badValue(PromiseBoundaries::three, (x, v) -> x.simplify(0, v), 0, 200));
        test("Returns the number of points that it has then", () -> {
            VectorPens x = three();
            due("with 2", x.simplify(0, 2), 3);
            due("with 3", x.simplify(0, 3), 2);
            due("of(0, 0)", x.of(0, 0), 2);
            due("closed, with 200", x.simplify(2, 200), 3);
            due("of(2, 0)", x.of(2, 0), 3);
        });
        test("NO_SUCH if there is no such stroke",
            () -> noSuchStroke(PromiseBoundaries::three, (x, v) -> x.simplify(v, 5)));
        test("BAD_VALUE if tolerance is out of range", () -> {
            keeps("a closed stroke", PromiseBoundaries::three, x -> x.simplify(2, 201), BAD_VALUE);
            keeps("there is no such stroke", PromiseBoundaries::three, x -> x.simplify(3, 201), NO_SUCH);
        });
    }

    private static void weld() {
        promise = "Promise 7";
        test("- `reach`: 1 to 999", () -> badValue(PromiseBoundaries::three, (x, v) -> x.weld(v), 1, 999));
        test("Returns the number of pairs of ends that are taken", () -> {
            VectorPens x = drawn("0,0-10,0;11,0-500,0;500,1-600,600;600,602-0,900");
            due("none", drawn("0,0-10,0;20,0-30,0").weld(9), 0);
            due("two", x.weld(1), 2);
            due("one more", x.weld(2), 1);
            due("no more", x.weld(2), 0);
        });
        test("BAD_VALUE if reach is out of range", () -> keeps("without strokes",
            VectorPens::new, x -> x.weld(0), BAD_VALUE));
    }

    private static void joinAll() {
        promise = "Promise 8";
        test("Returns the number of strokes then", () -> {
            due("none", new VectorPens().joinAll(), 0);
            due("one", drawn("0,0-1,1").joinAll(), 1);
            due("none of ten", full().joinAll(), 10);
            VectorPens x = drawn("0,0-1,0;1,0-2,0;2,0-3,0;3,0-4,0;4,0-5,1", "5,1-4,2;4,2-3,2;3,2-2,2;2,2-1,2;1,2-0,0");
            due("all of ten", x.joinAll(), 1);
            figures(x, 0, 10, 1);
        });
    }

    private static void move() {
        promise = "Promise 9";
        test("- `dx`: -999 to 999, added to all x", () -> {
            badValue(() -> drawn("5,5-6,6"), (x, v) -> x.move(0, v, 0), -999, 999);
            VectorPens x = drawn("0,3-0,4");
            due("999", x.move(0, 999, 0), 999003);
            points(x, 0, 999003, 999004);
            due("-999", x.move(0, -999, 0), 3);
            points(x, 0, 3, 4);
        });
        test("- `dy`: -999 to 999, added to all y", () -> {
            badValue(() -> drawn("5,5-6,6"), (x, v) -> x.move(0, 0, v), -999, 999);
            VectorPens x = drawn("3,0-4,0");
            due("999", x.move(0, 0, 999), 3999);
            points(x, 0, 3999, 4999);
            due("-999", x.move(0, 0, -999), 3000);
            points(x, 0, 3000, 4000);
        });
        test("NO_SUCH if there is no such stroke",
            () -> noSuchStroke(PromiseBoundaries::three, (x, v) -> x.move(v, 1, 1)));
        test("BAD_VALUE if dx or dy is out of range", () -> {
            keeps("both", PromiseBoundaries::three, x -> x.move(0, 1000, -1000), BAD_VALUE);
            keeps("dx, and dy would lead out", PromiseBoundaries::three, x -> x.move(0, 1000, 999), BAD_VALUE);
            keeps("dy, and dx would lead out", PromiseBoundaries::three, x -> x.move(0, 999, -1000), BAD_VALUE);
        });
        test("NOT_POSSIBLE if a coordinate would leave its range", PromiseBoundaries::moveToTheEdges);
    }

    private static void moveToTheEdges() {
        // From 100 to 200 and 300 to 400: the one point has the least x and the greatest y, or the other way round.
        int[][] inside = {{-100, 0}, {799, 0}, {0, -300}, {0, 599}, {-100, -300}, {799, 599}, {0, 0}};
        int[][] outside = {{-101, 0}, {800, 0}, {0, -301}, {0, 600}, {-101, -301}, {999, 999}, {-999, -999}};
        String[] texts = {"100,400-150,350-200,300", "200,400-150,350-100,300", "150,350-100,300-200,400z"};
        for (String text : texts) {
            for (int[] d : inside) {
                VectorPens x = drawn(text);
                int first = x.point(0, 0);
                int last = x.point(0, 2);
                int by = 1000 * d[0] + d[1];
                due(text + " by " + d[0] + ", " + d[1], x.move(0, d[0], d[1]), first + by);
                due("the last point then", x.point(0, 2), last + by);
            }
            for (int[] d : outside) {
                keeps(text + " by " + d[0] + ", " + d[1], () -> drawn(text), x -> x.move(0, d[0], d[1]), NOT_POSSIBLE);
            }
        }
    }

    private static void turn() {
        promise = "Promise 10";
        test("one quarter turn takes a point at (a, b) from the first point to (-b, a) from the first point", () -> {
            int[] last = {488507, 493488, 512493};
            for (int quarters = 1; quarters <= 3; quarters++) {
                VectorPens x = drawn("500,500-510,500-507,512");
                due("turn(0, " + quarters + ")", x.turn(0, quarters), last[quarters - 1]);
                points(x, 0, 500500, quarters == 1 ? 500510 : quarters == 2 ? 490500 : 500490, last[quarters - 1]);
            }
            VectorPens x = drawn("500,500-510,500-507,512z");
            for (int i = 0; i < 4; i++) {
                x.turn(0, 1);
            }
            points(x, 0, 500500, 510500, 507512);
            due("of(0, 1)", x.of(0, 1), 1);
        });
        test("- `quarters`: 1 to 3", () -> badValue(PromiseBoundaries::three, (x, v) -> x.turn(0, v), 1, 3));
        test("NO_SUCH if there is no such stroke",
            () -> noSuchStroke(PromiseBoundaries::three, (x, v) -> x.turn(v, 1)));
        test("BAD_VALUE if quarters is out of range", () -> {
            keeps("in a corner", () -> drawn("0,0-9,9"), x -> x.turn(0, 4), BAD_VALUE);
            keeps("there is no such stroke", () -> drawn("0,0-9,9"), x -> x.turn(1, 4), NO_SUCH);
        });
        test("NOT_POSSIBLE if a coordinate would leave its range", PromiseBoundaries::turnToTheEdges);
    }

    private static void turnToTheEdges() {
        // The first point, the second one, the quarters, and the second one then, or -1 if it would leave the range.
        Object[][] cases = {
            {"9,500", "9,509", 1, 500}, {"8,500", "8,509", 1, -1},
            {"990,500", "990,491", 1, 999500}, {"991,500", "991,491", 1, -1},
            {"500,9", "491,9", 1, 500000}, {"500,8", "491,8", 1, -1},
            {"500,990", "509,990", 1, 500999}, {"500,991", "509,991", 1, -1},
            {"9,500", "18,500", 2, 500}, {"8,500", "17,500", 2, -1},
            {"990,500", "981,500", 2, 999500}, {"991,500", "982,500", 2, -1},
            {"500,9", "500,18", 2, 500000}, {"500,8", "500,17", 2, -1},
            {"500,990", "500,981", 2, 500999}, {"500,991", "500,982", 2, -1},
            {"9,500", "9,491", 3, 500}, {"8,500", "8,491", 3, -1},
            {"990,500", "990,509", 3, 999500}, {"991,500", "991,509", 3, -1},
            {"500,9", "509,9", 3, 500000}, {"500,8", "509,8", 3, -1},
            {"500,990", "491,990", 3, 500999}, {"500,991", "491,991", 3, -1}};
        for (Object[] c : cases) {
            String text = c[0] + "-" + c[1];
            int quarters = (Integer) c[2];
            if ((Integer) c[3] >= 0) {
                due(text + " by " + quarters, drawn(text).turn(0, quarters), (Integer) c[3]);
            } else {
                keeps(text + " by " + quarters, () -> drawn(text), x -> x.turn(0, quarters), NOT_POSSIBLE);
            }
        }
        keeps("an inner point", () -> drawn("8,500-8,509-9,500"), x -> x.turn(0, 1), NOT_POSSIBLE);
        due("a quarter on the way would leave the range", drawn("500,0-900,0").turn(0, 2), 100000);
        due("the whole range", drawn("0,0-999,0").turn(0, 1), 999);
    }

    private static void reverse() {
        promise = "Promise 11";
        test("Reverses the order of the points of a stroke", () -> {
            VectorPens x = drawn("1,2-3,4;1,2-3,4-5,6;1,2-3,4-5,6-7,8z");
            due("2 points", x.reverse(0), 3004);
            due("3 points", x.reverse(1), 5006);
            due("4 points, closed", x.reverse(2), 7008);
            points(x, 0, 3004, 1002);
            points(x, 1, 5006, 3004, 1002);
            points(x, 2, 7008, 5006, 3004, 1002);
            due("of(2, 1)", x.of(2, 1), 1);
            VectorPens thirty = penDown(30);
            thirty.lift();
            due("30 points", thirty.reverse(0), 30005);
            due("point(0, 14)", thirty.point(0, 14), 16005);
            due("point(0, 15)", thirty.point(0, 15), 15005);
            due("point(0, 29)", thirty.point(0, 29), 1005);
        });
        test("NO_SUCH if there is no such stroke", () -> noSuchStroke(PromiseBoundaries::three, VectorPens::reverse));
    }

    private static void close() {
        promise = "Promise 12";
        test("Closes an open stroke", () -> {
            VectorPens x = drawn("1,1-2,1-2,2");
            due("close(0)", x.close(0), 3);
            figures(x, 0, 3, 1, 34, 1, 3);
            due("isInside(0, 1, 1)", x.isInside(0, 1, 1), 1);
        });
        test("NO_SUCH if there is no such stroke", () -> noSuchStroke(PromiseBoundaries::three, VectorPens::close));
        test("NOT_POSSIBLE if it is closed", () -> {
            keeps("closed", PromiseBoundaries::three, x -> x.close(2), NOT_POSSIBLE);
            VectorPens x = three();
            x.split(2, 0);
            x.simplify(2, 0);
            due("open, but with equal ends", x.close(2), NOT_POSSIBLE);
            due("open", x.close(0), 3);
            due("closed then", x.close(0), NOT_POSSIBLE);
        });
        test("or has fewer than 3 points", () -> {
            keeps("2", PromiseBoundaries::three, x -> x.close(1), NOT_POSSIBLE);
            due("3", three().close(0), 3);
            VectorPens x = penDown(30);
            x.lift();
            due("30", x.close(0), 30);
        });
        test("or if its first and its last point are equal", () -> {
            keeps("equal, 3 points", () -> drawn("1,1-2,2-1,1"), x -> x.close(0), NOT_POSSIBLE);
            keeps("equal, 4 points", () -> drawn("1,1-2,2-3,2-1,1"), x -> x.close(0), NOT_POSSIBLE);
            due("another x", drawn("1,1-2,2-3,2-2,1").close(0), 4);
            due("another y", drawn("1,1-2,2-3,2-1,2").close(0), 4);
            due("exchanged", drawn("1,2-2,2-2,1").close(0), 3);
            due("equal to an inner point", drawn("1,1-2,2-1,1-3,3").close(0), 4);
        });
    }

    private static void split() {
        promise = "Promise 13";
        test("An open stroke becomes two strokes, which both have this point", () -> {
            VectorPens x = drawn("1,1-2,2-3,3;8,8-9,9");
            due("the only inner point of three", x.split(0, 1), 3);
            points(x, 0, 1001, 2002);
            points(x, 1, 8008, 9009);
            points(x, 2, 2002, 3003);
            VectorPens y = drawn("1,1-2,2-3,3-4,4-5,5");
            due("the last inner point of five", y.split(0, 3), 2);
            points(y, 0, 1001, 2002, 3003, 4004);
            points(y, 1, 4004, 5005);
            due("behind another call", y.turn(0, 2), NOT_POSSIBLE);
            due("the new stroke's other end", y.split(0, 1), 3);
            points(y, 0, 1001, 2002);
            points(y, 2, 2002, 3003, 4004);
            due("of(2, 1)", y.of(2, 1), 0);
        });
        test("A closed stroke becomes open and begins and ends with this point", () -> {
            int[][] want = {{1001, 2001, 2002, 1001}, {2001, 2002, 1001, 2001}, {2002, 1001, 2001, 2002}};
            for (int point = 0; point < 3; point++) {
                VectorPens x = drawn("7,7-8,8;1,1-2,1-2,2z;8,8-9,9");
                due("ifSimplified(0, 0) before", x.ifSimplified(0, 0), 2);
                due("at " + point, x.split(1, point), 3);
                points(x, 1, want[point]);
                due("of(1, 1)", x.of(1, 1), 0);
                points(x, 2, 8008, 9009);
            }
        });
        test("NO_SUCH if there is no such stroke or point", () -> {
            noSuchStroke(() -> drawn("1,1-2,2-3,3;5,5-6,6-7,7"), (x, v) -> x.split(v, 1));
            range(() -> drawn("1,1-2,2-3,3;5,5-6,6-7,7-8,8"), (x, v) -> x.split(0, v), 0, 2, NO_SUCH);
            range(() -> drawn(SQUARE), (x, v) -> x.split(0, v), 0, 3, NO_SUCH);
            keeps("no such point, with ten strokes", Bench::full, x -> x.split(0, 2), NO_SUCH);
        });
        test("NOT_POSSIBLE if the point is an end of an open stroke", () -> {
            keeps("its first point", PromiseBoundaries::three, x -> x.split(0, 0), NOT_POSSIBLE);
            keeps("its last point", PromiseBoundaries::three, x -> x.split(0, 2), NOT_POSSIBLE);
            keeps("the first one of two", PromiseBoundaries::three, x -> x.split(1, 0), NOT_POSSIBLE);
            keeps("the second one of two", PromiseBoundaries::three, x -> x.split(1, 1), NOT_POSSIBLE);
            keeps("an end, with ten strokes", Bench::full, x -> x.split(9, 1), NOT_POSSIBLE);
            due("beside it", three().split(0, 1), 4);
            due("an inner point where its end is", drawn("1,1-2,2-1,1-3,3").split(0, 2), 2);
            due("the first point of a closed stroke", three().split(2, 0), 3);
            due("the last point of a closed stroke", three().split(2, 2), 3);
        });
        test("LIMIT if there would be more than 10 strokes", () -> {
            keeps("eleven", PromiseBoundaries::tenWithInnerPoints, x -> x.split(0, 1), LIMIT);
            due("ten, closed", tenWithInnerPoints().split(1, 0), 10);
            VectorPens x = tenWithInnerPoints();
            x.remove(9);
            due("ten", x.split(0, 1), 10);
            points(x, 9, 1001, 2002);
        });
        test("or if a stroke would have more than 30 points", () -> {
            keeps("31", () -> closedZigzag(30), x -> x.split(0, 0), LIMIT);
            keeps("31, at the last point", () -> closedZigzag(30), x -> x.split(0, 29), LIMIT);
            VectorPens x = closedZigzag(29);
            due("30", x.split(0, 28), 1);
            figures(x, 0, 30, 0);
            due("point(0, 0)", x.point(0, 0), 28000);
            due("point(0, 29)", x.point(0, 29), 28000);
            VectorPens open = penDown(30);
            open.lift();
            due("29 and 2", open.split(0, 28), 2);
            figures(open, 0, 29, 0);
            figures(open, 1, 2, 0);
        });
    }

    private static VectorPens tenWithInnerPoints() {
        return drawn("0,0-1,1-2,2;1,0-2,1-2,0z;2,0-3,1;3,0-4,1;4,0-5,1", "5,0-6,1;6,0-7,1;7,0-8,1;8,0-9,1;9,0-9,1");
    }

    private static VectorPens closedZigzag(int points) {
        VectorPens x = new VectorPens();
        zigzag(x, points, 0);
        x.close(0);
        return x;
    }

    private static void remove() {
        promise = "Promise 14";
        test("Removes a stroke", () -> {
            VectorPens x = drawn("1,1-2,2");
            due("the only one", x.remove(0), 0);
            due("point(0, 0)", x.point(0, 0), NO_SUCH);
            due("nearest(0, 0)", x.nearest(0, 0), NONE);
            VectorPens ten = full();
            due("the last one of ten", ten.remove(9), 9);
            due("point(8, 0)", ten.point(8, 0), 8000);
            due("the first one of nine", ten.remove(0), 8);
            due("point(0, 0)", ten.point(0, 0), 1000);
            due("point(7, 0)", ten.point(7, 0), 8000);
            due("point(8, 0)", ten.point(8, 0), NO_SUCH);
        });
        test("NO_SUCH if there is no such stroke", () -> noSuchStroke(PromiseBoundaries::three, VectorPens::remove));
    }

    private static void toTop() {
        promise = "Promise 15";
        test("the strokes behind it get numbers that are lower by 1", () -> {
            int[][] want = {{3, 5, 1}, {1, 5, 3}, {1, 3, 5}};
            for (int stroke = 0; stroke < 3; stroke++) {
                VectorPens x = drawn("1,1-2,2;3,3-4,4;5,5-6,6");
                due("toTop(" + stroke + ")", x.toTop(stroke), 2);
                for (int i = 0; i < 3; i++) {
                    due("point(" + i + ", 0)", x.point(i, 0), 1001 * want[stroke][i]);
                }
            }
            due("the only one", drawn("1,1-2,2").toTop(0), 0);
            VectorPens ten = full();
            due("the first one of ten", ten.toTop(0), 9);
            due("point(0, 0)", ten.point(0, 0), 1000);
            due("point(8, 0)", ten.point(8, 0), 9000);
            due("point(9, 0)", ten.point(9, 0), 0);
        });
        test("NO_SUCH if there is no such stroke", () -> noSuchStroke(PromiseBoundaries::three, VectorPens::toTop));
    }

    // ---- 16 to 21: asking

    private static void strokes() {
        promise = "Promise 16";
        test("Returns the number of strokes", () -> {
            keeps("none", VectorPens::new, VectorPens::strokes, 0);
            keeps("a line only", () -> penDown(5), VectorPens::strokes, 0);
            keeps("one", () -> drawn(SQUARE), VectorPens::strokes, 1);
            keeps("ten", Bench::full, VectorPens::strokes, 10);
            keeps("ten and a line", Bench::tenAndPenDown, VectorPens::strokes, 10);
        });
    }

    private static void of() {
        promise = "Promise 17";
        test("0 for its number of points, 1 for whether it is closed (1 or 0)", () -> {
            for (int what = 0; what <= 9; what++) {
                int asked = what;
                int[] want = {3, 0, 208, 0, 2, 0, 300, 320, 300, 303};
                keeps("open, " + what, PromiseBoundaries::three, x -> x.of(0, asked), want[what]);
            }
            badValue(PromiseBoundaries::three, (x, v) -> x.of(0, v), 0, 9);
        });
        test("3 for its double area (0 if it is open), 4 for its turning sense plus 2 (2 if it is open)", () -> {
            VectorPens x = drawn("0,0-3,0-0,4");
            figures(x, 0, 3, 0, 80, 0, 2, 0);
            x.close(0);
            figures(x, 0, 3, 1, 120, 12, 3, 0);
            x.reverse(0);
            figures(x, 0, 3, 1, 120, 12, 1, 0);
        });
        test("6 for the least x, 7 for the greatest x, 8 for the least y, 9 for the greatest y of its points", () -> {
            int[] low = {3, 8, 2, 9};
            String[] texts = {"3,2-8,9-5,5", "8,9-3,2-5,5", "5,5-3,9-8,2", "5,5-8,2-3,9", "3,9-5,5-8,2z",
                "8,2-5,5-3,9z"};
            for (String text : texts) {
                VectorPens x = drawn(text);
                for (int what = 6; what <= 9; what++) {
                    due(text + ": of(0, " + what + ")", x.of(0, what), low[what - 6]);
                }
            }
            figures(drawn("0,999-999,0-5,5"), 0, 3, 0, 24067, 0, 2, 0, 0, 999, 0, 999);
        });
        test("NO_SUCH if there is no such stroke", () -> noSuchStroke(PromiseBoundaries::three, (x, v) -> x.of(v, 0)));
        test("BAD_VALUE if what is out of range", () -> {
            keeps("10 of a closed stroke", PromiseBoundaries::three, x -> x.of(2, 10), BAD_VALUE);
            keeps("10 of no stroke", PromiseBoundaries::three, x -> x.of(3, 10), NO_SUCH);
        });
    }

    private static void point() {
        promise = "Promise 18";
        test("Returns the point", () -> {
            keeps("the first one", PromiseBoundaries::three, x -> x.point(0, 0), 300300);
            keeps("the last one", PromiseBoundaries::three, x -> x.point(2, 2), 510510);
            keeps("the least", () -> drawn("0,0-999,999"), x -> x.point(0, 0), 0);
            keeps("the greatest", () -> drawn("0,0-999,999"), x -> x.point(0, 1), 999999);
        });
        test("NO_SUCH if there is no such stroke or point", () -> {
            noSuchStroke(PromiseBoundaries::three, (x, v) -> x.point(v, 0));
            range(PromiseBoundaries::three, (x, v) -> x.point(0, v), 0, 2, NO_SUCH);
            range(PromiseBoundaries::three, (x, v) -> x.point(1, v), 0, 1, NO_SUCH);
            range(() -> closedZigzag(30), (x, v) -> x.point(0, v), 0, 29, NO_SUCH);
        });
    }

    private static void crossings() {
        promise = "Promise 19";
        test("Returns the number of crossings of two strokes", () -> {
            String text = "0,5-20,5;5,0-10,10-15,0";
            keeps("two", () -> drawn(text), x -> x.crossings(0, 1), 2);
            keeps("two, the other way round", () -> drawn(text), x -> x.crossings(1, 0), 2);
            keeps("none", PromiseBoundaries::three, x -> x.crossings(0, 2), 0);
        });
        test("NO_SUCH if there is no such stroke", () -> {
            noSuchStroke(PromiseBoundaries::three, (x, v) -> x.crossings(v, 1) == BAD_VALUE ? 0 : x.crossings(v, 1));
            noSuchStroke(PromiseBoundaries::three, (x, v) -> x.crossings(1, v) == BAD_VALUE ? 0 : x.crossings(1, v));
            keeps("both", PromiseBoundaries::three, x -> x.crossings(3, -1), NO_SUCH);
            keeps("both, the same", PromiseBoundaries::three, x -> x.crossings(3, 3), NO_SUCH);
        });
        test("BAD_VALUE if both are the same", () -> {
            for (int stroke = 0; stroke < 3; stroke++) {
                int both = stroke;
                keeps("both " + both, PromiseBoundaries::three, x -> x.crossings(both, both), BAD_VALUE);
            }
            due("two of the same points", drawn("0,0-9,9;0,0-9,9").crossings(0, 1), 0);
        });
    }

    private static void nearest() {
        promise = "Promise 20";
        test("- `x`: 0 to 999", () -> badValue(PromiseBoundaries::three, (x, v) -> x.nearest(v, 5), 0, 999));
        test("- `y`: 0 to 999", () -> badValue(PromiseBoundaries::three, (x, v) -> x.nearest(5, v), 0, 999));
        test("Returns 100 * (the stroke) + (the number of the point in the stroke), for the least distance", () -> {
            keeps("the first point", PromiseBoundaries::three, x -> x.nearest(0, 0), 0);
            keeps("the last point", PromiseBoundaries::three, x -> x.nearest(999, 999), 202);
            due("just nearer to the second one", drawn("0,0-101,0").nearest(51, 0), 1);
            due("just nearer to the first one", drawn("0,0-101,0").nearest(50, 0), 0);
            due("the tenth stroke", full().nearest(999, 999), 901);
            due("the 30th point", closedZigzag(30).nearest(999, 0), 29);
            due("corner to corner", drawn("0,0-1,0").nearest(999, 999), 1);
        });
        test("of several points the one with the lowest number told so", () -> {
            due("two points of a stroke", drawn("0,0-100,0").nearest(50, 0), 0);
            due("two strokes", drawn("0,0-1,0;9,9-1,0").nearest(1, 0), 1);
            due("a later point of an earlier stroke", drawn("9,9-20,20-5,5;5,5-9,9").nearest(5, 5), 2);
            due("one point twice", drawn("9,9-5,5-9,9").nearest(9, 9), 0);
        });
        test("BAD_VALUE if a coordinate is out of range", () -> {
            keeps("both", PromiseBoundaries::three, x -> x.nearest(1000, -1), BAD_VALUE);
            keeps("without strokes", VectorPens::new, x -> x.nearest(-1, 0), BAD_VALUE);
        });
        test("NONE if there are no strokes", () -> {
            keeps("none", VectorPens::new, x -> x.nearest(0, 0), NONE);
            keeps("a line only", () -> penDown(3), x -> x.nearest(1, 5), NONE);
            VectorPens x = drawn("1,1-2,2");
            due("one", x.nearest(0, 0), 0);
            x.remove(0);
            due("none then", x.nearest(0, 0), NONE);
            x.undo();
            due("one again", x.nearest(0, 0), 0);
        });
    }

    private static void inside(String text, int[][] places) {
        VectorPens x = drawn(text);
        for (int[] p : places) {
            due(text + " around (" + p[0] + ", " + p[1] + ")", x.isInside(0, p[0], p[1]), p[2]);
        }
    }

    private static void isInside() {
        promise = "Promise 21";
        test("Tells whether a place is inside a closed stroke: a ray from the place in the direction of greater x "
            + "crosses an odd number of its pieces", () -> {
            inside("0,0-10,10-10,0-0,10z", new int[][] {{2, 5, 1}, {8, 5, 1}, {5, 2, 0}, {5, 8, 0}});
            inside("0,0-30,0-30,30-0,30-0,10-20,10-20,20-10,20-10,0z",
                new int[][] {{5, 25, 1}, {5, 5, 0}, {15, 5, 1}, {15, 15, 0}, {25, 15, 1}, {5, 15, 1}, {31, 5, 0}});
            inside("0,0-9,0-9,9-0,9-0,0-9,0-9,9-0,9z", new int[][] {{5, 5, 0}, {10, 5, 0}});
        });
        test("one of its ends has a y that is at most the place's y, the other one a y that is greater", () -> {
            inside(SQUARE, new int[][] {{0, 5, 0}, {0, 15, 0}, {15, 9, 0}, {15, 10, 1}, {15, 11, 1}, {15, 19, 1},
                {15, 20, 0}, {15, 21, 0}});
            inside("10,0-20,10-10,20-0,10z", new int[][] {{10, 0, 0}, {9, 0, 0}, {10, 1, 1}, {5, 10, 1}, {10, 19, 1},
                {10, 20, 0}, {9, 20, 0}});
            inside("0,10-10,5-20,10-10,15z", new int[][] {{0, 10, 1}, {20, 10, 0}, {19, 10, 1}});
            inside("0,0-999,0-999,999-0,999z", new int[][] {{0, 0, 1}, {998, 998, 1}, {0, 999, 0}, {998, 999, 0}});
        });
        test("and the piece is at a greater x than the place at the place's y", () -> {
            inside(SQUARE, new int[][] {{9, 15, 0}, {10, 15, 1}, {11, 15, 1}, {19, 15, 1}, {20, 15, 0}, {21, 15, 0}});
            inside("0,0-3,7-0,7z", new int[][] {{0, 3, 1}, {1, 3, 1}, {2, 3, 0}, {0, 0, 0}, {0, 1, 1}, {2, 5, 1},
                {3, 6, 0}});
            inside("0,0-10,0-5,10z", new int[][] {{1, 4, 0}, {2, 4, 1}, {3, 4, 1}, {7, 4, 1}, {8, 4, 0}, {8, 3, 1},
                {9, 3, 0}});
            inside("0,0-999,0-999,999-0,999z", new int[][] {{999, 0, 0}, {998, 0, 1}, {999, 998, 0}});
        });
        test("- `x`: 0 to 999", () -> badValue(PromiseBoundaries::three, (x, v) -> x.isInside(2, v, 5), 0, 999));
        test("- `y`: 0 to 999", () -> badValue(PromiseBoundaries::three, (x, v) -> x.isInside(2, 5, v), 0, 999));
        test("Returns 1 if it is inside, otherwise 0", () -> {
            keeps("inside", PromiseBoundaries::three, x -> x.isInside(2, 508, 502), 1);
            keeps("outside", PromiseBoundaries::three, x -> x.isInside(2, 502, 508), 0);
        });
        test("NO_SUCH if there is no such stroke",
            () -> noSuchStroke(() -> drawn("0,0-9,0-9,9z;0,0-9,0-9,9z"), (x, v) -> x.isInside(v, 5, 5)));
        test("BAD_VALUE if a coordinate is out of range", () -> {
            keeps("both, of an open stroke", PromiseBoundaries::three, x -> x.isInside(0, -1, 1000), BAD_VALUE);
            keeps("of no stroke", PromiseBoundaries::three, x -> x.isInside(3, -1, 1000), NO_SUCH);
        });
        test("NOT_POSSIBLE if the stroke is open", () -> {
            keeps("open", PromiseBoundaries::three, x -> x.isInside(0, 5, 5), NOT_POSSIBLE);
            VectorPens x = three();
            x.close(0);
            due("closed", x.isInside(0, 5, 5), 0);
            x.split(0, 0);
            due("open again", x.isInside(0, 5, 5), NOT_POSSIBLE);
        });
    }

    // ---- 22 to 24: forecasts

    private static void ifSimplified() {
        promise = "Promise 22";
        test("- `tolerance`: 0 to 200",
            () -> badValue(PromiseBoundaries::three, (x, v) -> x.ifSimplified(0, v), 0, 200));
        test("Tells how many points a stroke would have after simplify()", () -> {
            keeps("with 2", PromiseBoundaries::three, x -> x.ifSimplified(0, 2), 3);
            keeps("with 3", PromiseBoundaries::three, x -> x.ifSimplified(0, 3), 2);
            keeps("2 points", PromiseBoundaries::three, x -> x.ifSimplified(1, 200), 2);
            keeps("closed, with 200", PromiseBoundaries::three, x -> x.ifSimplified(2, 200), 3);
            for (int t = 0; t <= 200; t++) {
                VectorPens x = drawn("0,0-50,90-80,20-200,300-220,310-300,0-20,20");
                due("with " + t, x.ifSimplified(0, t), x.simplify(0, t));
            }
        });
        test("NO_SUCH if there is no such stroke",
            () -> noSuchStroke(PromiseBoundaries::three, (x, v) -> x.ifSimplified(v, 5)));
        test("BAD_VALUE if tolerance is out of range", () -> {
            keeps("a closed stroke", PromiseBoundaries::three, x -> x.ifSimplified(2, -1), BAD_VALUE);
            keeps("there is no such stroke", PromiseBoundaries::three, x -> x.ifSimplified(3, -1), NO_SUCH);
        });
    }

    private static void toleranceFor() {
        promise = "Promise 23";
        test("Finds the least tolerance with which a stroke would have at most so many points after simplify()", () -> {
            String text = "0,0-20,36-25,50-50,90-75,50-80,36-100,0";
            int[] least = {90, 3, 3, 2, 2, 0, 0};
            for (int points = 2; points <= 8; points++) {
                VectorPens x = drawn(text);
                int t = x.toleranceFor(0, points);
                due("ifSimplified(0, " + t + ") is at most " + points, x.ifSimplified(0, t) <= points ? 1 : 0, 1);
                if (t > 0) {
                    due("ifSimplified(0, " + (t - 1) + ") is more", x.ifSimplified(0, t - 1) > points ? 1 : 0, 1);
                }
                due("toleranceFor(0, " + points + ")", t, least[points - 2]);
            }
        });
        test("- `points`: 2 to 30", () -> badValue(PromiseBoundaries::three, (x, v) -> x.toleranceFor(0, v), 2, 30));
        test("Returns the tolerance, 0 to 200", () -> {
            keeps("0", PromiseBoundaries::three, x -> x.toleranceFor(0, 3), 0);
            keeps("0 for all points on a line", () -> drawn("0,0-5,5-9,9"), x -> x.toleranceFor(0, 2), 0);
            keeps("1", () -> drawn("0,0-5,1-10,0"), x -> x.toleranceFor(0, 2), 1);
            keeps("200", () -> drawn("0,0-300,200-600,0"), x -> x.toleranceFor(0, 2), 200);
            keeps("200 for 199.4", () -> drawn("0,0-0,282-500,500"), x -> x.toleranceFor(0, 2), 200);
        });
        test("NO_SUCH if there is no such stroke",
            () -> noSuchStroke(PromiseBoundaries::three, (x, v) -> x.toleranceFor(v, 5)));
        test("BAD_VALUE if points is out of range", () -> {
            keeps("1, of 2 points", PromiseBoundaries::three, x -> x.toleranceFor(1, 1), BAD_VALUE);
            keeps("there is no such stroke", PromiseBoundaries::three, x -> x.toleranceFor(3, 31), NO_SUCH);
        });
        test("NONE if there is no such tolerance", () -> {
            keeps("201 would be needed", () -> drawn("0,0-300,201-600,0"), x -> x.toleranceFor(0, 2), NONE);
            keeps("200 is enough", () -> drawn("0,0-300,200-600,0"), x -> x.toleranceFor(0, 2), 200);
            keeps("a closed stroke with 2 points", PromiseBoundaries::three, x -> x.toleranceFor(2, 2), NONE);
            keeps("a closed stroke with 3 points", PromiseBoundaries::three, x -> x.toleranceFor(2, 3), 0);
            keeps("equal ends", () -> drawn("10,10-13,14-11,10-10,10"), x -> x.toleranceFor(0, 2), NONE);
            keeps("equal ends, 3 points", () -> drawn("10,10-13,14-11,10-10,10"), x -> x.toleranceFor(0, 3), 1);
        });
    }

    private static void ifWelded() {
        promise = "Promise 24";
        test("Tells how many strokes there would be after weld() and joinAll()", () -> {
            String text = "0,0-10,0;15,0-30,0;30,0-40,40;40,50-0,0";
            for (int reach : new int[] {1, 4, 5, 9, 10, 20, 999}) {
                VectorPens x = drawn(text);
                int told = x.ifWelded(reach);
                x.weld(reach);
                due("with " + reach, told, x.joinAll());
            }
            keeps("with 4", () -> drawn(text), x -> x.ifWelded(4), 2);
            keeps("with 5", () -> drawn(text), x -> x.ifWelded(5), 1);
            keeps("none", VectorPens::new, x -> x.ifWelded(999), 0);
            keeps("closed ones", () -> drawn("0,0-9,0-9,9z;1,1-9,0-9,9z"), x -> x.ifWelded(999), 2);
            VectorPens x = drawn("0,0-10,0;11,0-30,0", "50,0-60,0;61,0-70,0", "90,0-95,0");
            due("of five from three texts, two pairs in reach", x.ifWelded(1), 3);
            x.remove(0);
            due("of four", x.ifWelded(1), 3);
            zigzag(x, 3, 900);
            due("of four and a drawn one", x.ifWelded(1), 4);
            x.undo();
            due("the pen down", x.ifWelded(1), 3);
        });
        test("- `reach`: 1 to 999", () -> badValue(PromiseBoundaries::three, (x, v) -> x.ifWelded(v), 1, 999));
        test("BAD_VALUE if reach is out of range",
            () -> keeps("without strokes", VectorPens::new, x -> x.ifWelded(1000), BAD_VALUE));
    }

    // ---- 25 to 29: text

    private static void type() {
        promise = "Promise 25";
        test("- `code`: character code, 33 to 126", () -> badValue(VectorPens::new, (x, v) -> x.type(v), 33, 126));
        test("Returns the new length of the text", () -> {
            VectorPens x = new VectorPens();
            due("the first", x.type(33), 1);
            due("the second", x.type(126), 2);
            due("the 80th", typed("1".repeat(79)).type(49), 80);
            type(x, "1,1-2,2");
            x.read();
            due("the first behind read()", x.type(49), 1);
        });
        test("BAD_VALUE if code is out of range", () -> {
            keeps("a digit's low bits", VectorPens::new, x -> x.type(49 + 65536), BAD_VALUE);
            keeps("a full text", () -> typed("1".repeat(80)), x -> x.type(127), BAD_VALUE);
        });
        test("LIMIT if the text has 80 characters", () -> {
            String text = "00,0-1,1" + ";0,0-1,1".repeat(9);
            keeps("80", () -> typed(text), x -> x.type(49), LIMIT);
            VectorPens x = typed(text.substring(1));
            due("79", x.type(49), 80);
            due("80", x.type(49), LIMIT);
            due("read()", x.read(), 10);
            due("point(9, 1), the last one typed", x.point(9, 1), 1011);
        });
    }

    private static void clearText() {
        promise = "Promise 26";
        test("Makes the text empty", () -> {
            VectorPens x = typed("1,1-2,2");
            due("clearText()", x.clearText(), 7);
            due("syntaxError()", x.syntaxError(), 0);
            due("read()", x.read(), BAD_TEXT);
            due("clearText() of the empty text", x.clearText(), 0);
            type(x, "3,3-4,4");
            due("read()", x.read(), 1);
            points(x, 0, 3003, 4004);
        });
        test("Returns the previous length of the text", () -> {
            due("0", new VectorPens().clearText(), 0);
            due("1", typed("x").clearText(), 1);
            due("79", typed("x".repeat(79)).clearText(), 79);
            due("80", typed("x".repeat(80)).clearText(), 80);
            due("80 of 81", typed("x".repeat(81)).clearText(), 80);
        });
    }

    private static void errorAt(String text, int want) {
        keeps("syntaxError() of " + text, () -> typed(text), VectorPens::syntaxError, want);
    }

    private static void syntaxError() {
        promise = "Promise 27";
        test("Returns the index of the first character for which no drawing text, of any length, begins with the "
            + "characters of the text up to and including this one", () -> {
                Object[][] texts = {{"x", 0}, {"1x", 1}, {"1,x", 2}, {"1,2x", 3}, {"1,2-x", 4}, {"1,2-3,4x", 7},
                    {"1,2-3,4;x", 8}, {"1,2-3,4zx", 7}, {"1,2-3,4-5,6zx", 12}, {"1,2-3,4-5,6z;x", 13},
                    {"1,2-3,4-5,6z;;", 13}, {"1,2;x", 3}, {"1234", 3}, {"1,2345", 5}, {"1,2,3", 3}, {"1--2", 1},
                    {"1,2--", 4}, {"1,2-3,4Z", 7}, {"1,2-3,4-5,6Z", 11}};
                for (Object[] t : texts) {
                    errorAt((String) t[0], (Integer) t[1]);
                }
                errorAt("1,2-3,4-".repeat(9) + "5,6-7,8-", 80);
                errorAt("1,2-3,4-".repeat(9) + "5,6-7,8,", 79);
                errorAt("1,2-3,4;".repeat(10), 80);
            });
        test("the length of the text if there is no such character but the text is not a drawing text "
            + "(this holds for the empty text)", () -> {
                String whole = "123,456-7,8-90,1z;2,3-4,5";
                boolean[] drawing = new boolean[whole.length() + 1];
                for (int n : new int[] {11, 16, 17, 25}) {
                    drawing[n] = true;
                }
                for (int n = 0; n <= whole.length(); n++) {
                    errorAt(whole.substring(0, n), drawing[n] ? NONE : n);
                }
            });
        test("NONE if the text is a drawing text", () -> {
            errorAt("1,2-3,4", NONE);
            errorAt("1,1-1,1", NONE);
            errorAt("1,2-3,4-1,2z", NONE);
            errorAt("1,2-3,4;5,6-7,8;9,1-2,3", NONE);
            errorAt("00,0-1,1" + ";0,0-1,1".repeat(9), NONE);
            errorAt("1,2-3,4-".repeat(9) + "5,6-7,8z", NONE);
        });
    }

    private static VectorPens with(VectorPens x, String text) {
        type(x, text);
        return x;
    }

    private static void read() {
        promise = "Promise 28";
        test("Adds the strokes of the text behind the others, all of them or none, and makes the text empty", () -> {
            VectorPens x = with(nine(), "50,50-60,60-70,50z");
            due("the tenth", x.read(), 1);
            points(x, 9, 50050, 60060, 70050);
            due("of(9, 1)", x.of(9, 1), 1);
            points(x, 8, 8000, 9001);
            due("clearText()", x.clearText(), 0);
            keepsButProblem("two beside nine", () -> with(nine(), "1,1-2,2;3,3-4,4"), VectorPens::read, LIMIT);
            keepsButProblem("a right one and a wrong one",
                () -> typed("1,1-2,2;3,3-3,3"), VectorPens::read, NOT_POSSIBLE);
        });
        test("Returns the number of strokes that are added", () -> {
            due("one", typed("1,1-2,2").read(), 1);
            due("ten", typed("0,0-1,1" + ";0,0-1,1".repeat(9)).read(), 10);
            due("nine beside one", with(drawn("1,1-2,2"), "0,0-1,1" + ";0,0-1,1".repeat(8)).read(), 9);
        });
        test("BAD_TEXT if the text is not a drawing text", () -> {
            keepsButProblem("the empty text", VectorPens::new, VectorPens::read, BAD_TEXT);
            keepsButProblem("a text that could go on", () -> typed("1,2-3,"), VectorPens::read, BAD_TEXT);
            keepsButProblem("one point", () -> typed("1,2"), VectorPens::read, BAD_TEXT);
            keepsButProblem("two points with z", () -> typed("1,2-3,4z"), VectorPens::read, BAD_TEXT);
            keepsButProblem("equal points too", () -> typed("1,2-1,2z"), VectorPens::read, BAD_TEXT);
            due("right", typed("1,2-3,4").read(), 1);
        });
        test("NOT_POSSIBLE if the pen is down (this is checked behind BAD_TEXT, but before the points)", () -> {
            keepsButProblem("a right text", () -> with(penDown(1), "1,2-3,4"), VectorPens::read, NOT_POSSIBLE);
            keepsButProblem("a wrong text", () -> with(penDown(1), "1,2-3,4;"), VectorPens::read, BAD_TEXT);
            VectorPens x = with(penDown(1), "1,2-1,2");
            due("equal points", x.read(), NOT_POSSIBLE);
            problems(x, NOT_POSSIBLE, NONE, NONE);
            due("lift()", x.lift(), NONE);
            due("equal points, the pen up", x.read(), NOT_POSSIBLE);
            problems(x, NOT_POSSIBLE, 0, 1);
        });
        test("or if two points of a stroke that follow one another are equal", () -> {
            keepsButProblem("the first two", () -> typed("1,1-1,1-2,2"), VectorPens::read, NOT_POSSIBLE);
            keepsButProblem("the last two", () -> typed("1,1-2,2-2,2"), VectorPens::read, NOT_POSSIBLE);
            keepsButProblem("in the last stroke", () -> typed("1,1-2,2;3,3-4,4-4,4z"), VectorPens::read, NOT_POSSIBLE);
            due("not following one another", typed("1,1-2,2-1,1-2,2").read(), 1);
            due("the last one and the next stroke's first", typed("1,1-2,2;2,2-1,1").read(), 2);
            due("another y", typed("1,1-1,2").read(), 1);
        });
        test("or if the first and the last point of a closed one are equal", () -> {
            keepsButProblem("closed", () -> typed("1,1-2,2-1,1z"), VectorPens::read, NOT_POSSIBLE);
            keepsButProblem("the second one",
                () -> typed("1,1-2,2-1,1;1,1-2,2-3,1-1,1z"), VectorPens::read, NOT_POSSIBLE);
            due("open", typed("1,1-2,2-1,1").read(), 1);
            due("closed, another last point", typed("1,1-2,2-1,2z").read(), 1);
        });
        test("LIMIT if there would be more than 10 strokes", () -> {
            keepsButProblem("eleven", () -> with(full(), "1,1-2,2"), VectorPens::read, LIMIT);
            String nine = "0,0-1,1" + ";0,0-1,1".repeat(8);
            keepsButProblem("eleven by many", () -> with(drawn("1,1-2,2", "3,3-4,4"), nine), VectorPens::read, LIMIT);
            due("ten by many", with(drawn("1,1-2,2"), nine).read(), 9);
            due("ten", with(nine(), "1,1-2,2").read(), 1);
        });
        test("Whenever an error code is returned, the text stays", () -> {
            VectorPens x = typed("1,1-1,1");
            due("BAD_TEXT", with(x, "1,1-2,2;").read(), BAD_TEXT);
            due("clearText()", x.clearText(), 8);
            due("NOT_POSSIBLE", with(x, "1,1-1,1").read(), NOT_POSSIBLE);
            due("clearText()", x.clearText(), 7);
            VectorPens ten = with(full(), "50,1-2,2");
            due("LIMIT", ten.read(), LIMIT);
            due("remove(0)", ten.remove(0), 9);
            due("the same text again", ten.read(), 1);
            points(ten, 9, 50001, 2002);
            due("clearText()", ten.clearText(), 0);
            VectorPens pen = with(penDown(2), "50,1-2,2");
            due("NOT_POSSIBLE", pen.read(), NOT_POSSIBLE);
            due("lift()", pen.lift(), 0);
            due("the same text again", pen.read(), 1);
        });
    }

    private static void failed(String text, int... want) {
        VectorPens x = typed(text);
        x.read();
        problems(x, want);
    }

    private static void equalPoints() {
        failed("1,1-1,1", NOT_POSSIBLE, 0, 1);
        failed("1,1-2,2-1,1z", NOT_POSSIBLE, 0, 0);
        failed("1,1-2,2-3,3-3,3", NOT_POSSIBLE, 0, 3);
        failed("1,1-2,2;1,1-2,2;1,1-2,2-1,1z", NOT_POSSIBLE, 2, 0);
        failed("0,0-1,1;".repeat(9) + "0,0-0,0", NOT_POSSIBLE, 9, 1);
        failed("1,2-3,4-".repeat(9) + "5,6-5,6z", NOT_POSSIBLE, 0, 19);
    }

    private static void firstEqualPoint() {
        failed("1,1-2,2;3,3-3,3;4,4-4,4", NOT_POSSIBLE, 1, 1);
        failed("1,1-2,2-3,3-1,1z;4,4-4,4", NOT_POSSIBLE, 0, 0);
        failed("1,1-2,2-2,2-2,2", NOT_POSSIBLE, 0, 2);
        failed("1,1-2,2-2,2-1,1z", NOT_POSSIBLE, 0, 2);
        failed("1,1-2,2-1,1-1,1z", NOT_POSSIBLE, 0, 3);
        failed("1,1-1,1-1,1z", NOT_POSSIBLE, 0, 1);
    }

    private static void problem() {
        promise = "Promise 29";
        test("Tells about the latest call of read() that returned an error code", () -> {
            VectorPens x = typed("1,1-1,1");
            x.read();
            problems(x, NOT_POSSIBLE, 0, 1);
            with(x, "1,1-2,2;3,3-4,4-3,3z").read();
            problems(x, NOT_POSSIBLE, 1, 0);
            due("a read() without an error code", with(x, "1,1-2,2").read(), 1);
            problems(x, NOT_POSSIBLE, 1, 0);
            due("another call with an error code", x.weld(0), BAD_VALUE);
            problems(x, NOT_POSSIBLE, 1, 0);
            due("undo()", x.undo(), 0);
            problems(x, NOT_POSSIBLE, 1, 0);
            due("read() of the empty text", x.read(), BAD_TEXT);
            problems(x, BAD_TEXT, NONE, NONE);
        });
        test("0 for the error code", () -> {
            failed("1,1-2", BAD_TEXT);
            failed("1,1-1,1", NOT_POSSIBLE);
            VectorPens pen = with(penDown(1), "1,1-2,2");
            pen.read();
            problems(pen, NOT_POSSIBLE);
            VectorPens x = with(full(), "1,1-2,2");
            x.read();
            problems(x, LIMIT);
        });
        test("which is equal to the point before it (or, for the number 0, to the last point of a closed stroke)",
            PromiseBoundaries::equalPoints);
        test("This is the first such stroke of the text, and in it the first such point, where the point 0 comes last",
            PromiseBoundaries::firstEqualPoint);
        test("NO_SUCH if what is out of range", () -> {
            range(VectorPens::new, (x, v) -> x.problem(v), 0, 2, NO_SUCH);
            range(() -> {
                VectorPens x = typed("1,1-2,2-2,2");
                x.read();
                return x;
            }, (x, v) -> x.problem(v), 0, 2, NO_SUCH);
        });
        test("NONE if there was no such call yet", () -> {
            problems(new VectorPens(), NONE, NONE, NONE);
            problems(drawn(SQUARE), NONE, NONE, NONE);
            VectorPens x = typed("1,1-1,1");
            x.syntaxError();
            x.lift();
            problems(x, NONE, NONE, NONE);
            x.read();
            problems(x, NOT_POSSIBLE, 0, 1);
        });
        test("also NONE for 1 and 2 if the reason was not a pair of equal points", () -> {
            failed("1,1-1,1z", BAD_TEXT, NONE, NONE);
            VectorPens pen = with(penDown(1), "1,1-1,1");
            pen.read();
            problems(pen, NOT_POSSIBLE, NONE, NONE);
            VectorPens x = with(full(), "1,1-1,1");
            x.read();
            problems(x, NOT_POSSIBLE, 0, 1);
            with(x, "1,1-2,2").read();
            problems(x, LIMIT, NONE, NONE);
        });
    }

    // ---- 30 and 31: undo and the digest

    private static void undo() {
        promise = "Promise 30";
        test("Restores the state that was saved last, and discards it from the saved states", () -> {
            VectorPens x = drawn("1,1-2,2");
            x.move(0, 1, 0);
            x.move(0, 2, 0);
            due("undo()", x.undo(), 2);
            points(x, 0, 2001, 3002);
            due("undo()", x.undo(), 1);
            points(x, 0, 1001, 2002);
            due("move(0, 5, 0)", x.move(0, 5, 0), 6001);
            due("undo()", x.undo(), 1);
            points(x, 0, 1001, 2002);
            due("undo()", x.undo(), 0);
            due("strokes()", x.strokes(), 0);
        });
        test("Returns the number of saved states that are left", () -> {
            due("0 of one", drawn("1,1-2,2").undo(), 0);
            due("1 of two", penDown(2).undo(), 1);
            due("5 of six", penDown(6).undo(), 5);
            due("5 of seven", penDown(7).undo(), 5);
        });
        test("NOT_POSSIBLE if no state is saved", () -> {
            keeps("in a new object", VectorPens::new, VectorPens::undo, NOT_POSSIBLE);
            VectorPens x = drawn("1,1-2,2");
            due("one", x.undo(), 0);
            due("none", x.undo(), NOT_POSSIBLE);
            due("none", x.undo(), NOT_POSSIBLE);
            due("strokes()", x.strokes(), 0);
            VectorPens seven = penDown(7);
            for (int left = 5; left >= 0; left--) {
                due("undo()", seven.undo(), left);
            }
            due("behind six", seven.undo(), NOT_POSSIBLE);
            due("line()", seven.line(), 1);
        });
    }

    private static long fold(VectorPens x) {
        long hash = hash(x.line(), x.strokes());
        for (int s = 0; s < x.strokes(); s++) {
            for (int what = 0; what <= 9; what++) {
                hash = 31 * hash + x.of(s, what);
            }
            for (int i = 0; i < x.of(s, 0); i++) {
                hash = 31 * hash + x.point(s, i);
            }
        }
        for (int a = 0; a < x.strokes(); a++) {
            for (int b = a + 1; b < x.strokes(); b++) {
                hash = 31 * hash + x.crossings(a, b);
            }
        }
        return hash;
    }

    private static void digest() {
        promise = "Promise 31";
        test("The hash starts at 866", () -> keeps("nothing", VectorPens::new, VectorPens::digest, 866L * 31 * 31));
        test("the hash becomes 31 * hash + v, in long arithmetic with overflow", () -> {
            due("one stroke", drawn("0,0-1,1").digest(), hash(0, 1, 2, 0, 14, 0, 2, 0, 0, 1, 0, 1, 0, 1001));
            VectorPens x = full();
            due("ten strokes", x.digest(), fold(x));
        });
        test("line()", () -> {
            due("1 point", penDown(1).digest(), hash(1, 0));
            due("30 points", penDown(30).digest(), hash(30, 0));
        });
        test("for each stroke its numbers 0 to 9, and all its points", () -> {
            due("a closed stroke", drawn("0,0-3,0-0,4z").digest(),
                hash(0, 1, 3, 1, 120, 12, 3, 0, 0, 3, 0, 4, 0, 3000, 4));
            VectorPens x = closedZigzag(30);
            due("30 points", x.digest(), fold(x));
        });
        test("for each pair of strokes, the first one with a lower number than the second one, the number of their "
            + "crossings, ordered by the first one and then by the second one", () -> {
                VectorPens x = drawn("0,5-20,5;5,0-10,10-15,0;0,7-20,7;9,0-9,20");
                due("crossings(0, 1)", x.crossings(0, 1), 2);
                due("crossings(0, 3)", x.crossings(0, 3), 1);
                due("four strokes", x.digest(), fold(x));
            });
    }

    static void pen() {
        newObject();
        down();
        draw();
        lift();
        line();
    }

    static void changing() {
        simplify();
        weld();
        joinAll();
        move();
        turn();
        reverse();
        close();
        split();
        remove();
        toTop();
    }

    static void asking() {
        strokes();
        of();
        point();
        crossings();
        nearest();
        isInside();
    }

    static void forecasts() {
        ifSimplified();
        toleranceFor();
        ifWelded();
    }

    static void text() {
        type();
        clearText();
        syntaxError();
        read();
        problem();
    }

    static void undoing() {
        undo();
        digest();
    }
}
