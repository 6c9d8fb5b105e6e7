/** The promises 13 to 19: ways by maps and by canals. */
final class WayEdges {
    private interface Way {
        int of(CanalMaps x, int surveyor, int to);
    }

    private WayEdges() {
    }

    /** A way 0-1-2-3 of 1, 2 and 3, a canal 0-3 of 7, 4 with no canal, and 5 of the district 1 with one to 0. */
    private static CanalMaps six() {
        CanalMaps x = Surveys.of(6);
        x.district(5, 1);
        x.canal(0, 1, 1);
        x.canal(1, 2, 2);
        x.canal(2, 3, 3);
        x.canal(0, 3, 7);
        x.canal(0, 5, 1);
        Surveys.settle(x);
        return x;
    }

    private static int sixDistance(int one, int other) {
        int[] places = {0, 1, 3, 6};
        return Math.abs(places[one] - places[other]);
    }

    private static void distances(Way way) {
        for (int one = 0; one < 6; one++) {
            for (int other = 0; other < 6; other++) {
                int a = one;
                int b = other;
                if (a == b) {
                    Edge.is(0, WayEdges::six, x -> way.of(x, a, b));
                } else if (a < 4 && b < 4) {
                    Edge.is(sixDistance(a, b), WayEdges::six, x -> way.of(x, a, b));
                } else {
                    Edge.isThrown(Edge.NONE, WayEdges::six, x -> way.of(x, a, b));
                }
            }
        }
        Edge.is(0, () -> Surveys.of(1), x -> way.of(x, 0, 0));
    }

    private static void surveyorsOutside(Way way) {
        for (int bad : Edge.outside(0, 5)) {
            Edge.isThrown(Edge.NO_INDEX, WayEdges::six, x -> way.of(x, bad, 0));
            Edge.isThrown(Edge.NO_INDEX, WayEdges::six, x -> way.of(x, 0, bad));
            Edge.isThrown(Edge.NO_INDEX, WayEdges::six, x -> way.of(x, 4, bad));
            Edge.isThrown(Edge.NO_INDEX, WayEdges::six, x -> way.of(x, bad, bad));
        }
        Edge.isThrown(Edge.NO_INDEX, CanalMaps::new, x -> way.of(x, 0, 0));
        Edge.isThrown(Edge.NO_INDEX, () -> Surveys.row(3), x -> way.of(x, 3, 3));
        Edge.isThrown(Edge.NO_INDEX, () -> Surveys.row(3), x -> way.of(x, 3, 0));
        Edge.isThrown(Edge.NO_INDEX, () -> Surveys.row(3), x -> way.of(x, 0, 3));
    }

    private static void byMap(Way way) {
        CanalMaps x = six();
        // the map is right no more, and the ways are still those that it tells
        x.close(1, 2);
        Surveys.loseUntil(x, 0);
        Check.is(6, way.of(x, 0, 3));
        Check.is(5, way.of(x, 3, 1));
        Check.is(8, way.of(x, 1, 3));
        Check.is(10, way.of(x, 2, 0));
        Check.is("none", Surveys.answer(() -> way.of(x, 4, 0)));
        // a canal that a map does not know yet, though there is one
        x.canal(4, 0, 1);
        Check.isThrown(Edge.NONE, () -> way.of(x, 4, 0));
        Check.isThrown(Edge.NONE, () -> way.of(x, 0, 4));
        Check.isThrown(Edge.NONE, () -> way.of(x, 3, 4));
        x.pass(1);
        Check.is(1, way.of(x, 4, 0));
        Check.is(1, way.of(x, 0, 4));
        Check.isThrown(Edge.NONE, () -> way.of(x, 4, 3));
    }

    /** The pages of 1 and of 0 tell unlike costs of one canal: each counts from its own end. */
    private static void unlikeCosts(Way way) {
        CanalMaps x = Surveys.row(3);
        x.canal(1, 2, 8);
        Check.is("1>0:1.4 1>2:1.4 2>1:2.3", Surveys.letters(x));
        x.lose();
        x.lose();
        x.pass(1);
        Check.is("0:2,1=1 1:3,0=1,2=1 2:2,1=1", Surveys.line(x, 0));
        Check.is("0:2,1=1 1:4,0=1,2=8 2:3,1=8", Surveys.line(x, 1));
        Check.is("0:2,1=1 1:3,0=1,2=1 2:3,1=8", Surveys.line(x, 2));
        Check.is(2, way.of(x, 0, 2));
        Check.is(9, way.of(x, 2, 0));
        Check.is(8, way.of(x, 1, 2));
        Check.is(8, way.of(x, 2, 1));
    }

    // Promises 13 and 14

    @Sentence(of = 13, value = {"Returns the distance from a surveyor to another one by the map of the surveyor: nearest",
            "Returns the distance, 0 to itself."})
    static void distancesNearestFirst() {
        distances(CanalMaps::distance);
        byMap(CanalMaps::distance);
        unlikeCosts(CanalMaps::distance);
    }

    @Sentence(of = 14, value = {"Returns the same by a second way: canal by canal, again and again, as long as a distance",
            "Returns the distance, 0 to itself."})
    static void distancesCanalByCanal() {
        distances(CanalMaps::distanceAgain);
        byMap(CanalMaps::distanceAgain);
        unlikeCosts(CanalMaps::distanceAgain);
    }

    /** The way of five canals goes against the order in which they are looked at, so that it takes five rounds. */
    @Sentence(of = 14, value = "Returns the same by a second way: canal by canal, again and again, as long as a distance")
    static void asManyRoundsAsThereAreCanalsOnTheWay() {
        int[][] orders = {{5, 4, 3, 2, 1, 0}, {0, 1, 2, 3, 4, 5}, {3, 5, 1, 4, 0, 2}, {2, 0, 4, 1, 5, 3}};
        for (int[] order : orders) {
            CanalMaps x = Surveys.of(6);
            for (int place = 0; place < 5; place++) {
                x.canal(order[place], order[place + 1], place + 1);
            }
            Surveys.settle(x);
            int due = 0;
            for (int place = 1; place < 6; place++) {
                due += place;
                Check.is(due, x.distanceAgain(order[0], order[place]));
                Check.is(due, x.distance(order[0], order[place]));
            }
            Check.is(due, x.distanceAgain(order[5], order[0]));
        }
    }

    @Sentence(of = 13, value = "Throws `IndexOutOfBoundsException` if there is no such surveyor, for either")
    static void distanceOfSurveyorsOutside() {
        surveyorsOutside(CanalMaps::distance);
    }

    @Sentence(of = 14, value = "Throws `IndexOutOfBoundsException` if there is no such surveyor, for either")
    static void distanceAgainOfSurveyorsOutside() {
        surveyorsOutside(CanalMaps::distanceAgain);
    }

    /** The way is known, then one of its pages is not, then it is again. */
    private static void knownAndUnknown(Way way) {
        CanalMaps x = Surveys.row(4);
        Check.is(3, way.of(x, 0, 3));
        x.district(0, 1);
        Check.isThrown(Edge.NONE, () -> way.of(x, 0, 3));
        Check.isThrown(Edge.NONE, () -> way.of(x, 0, 1));
        Check.is(0, way.of(x, 0, 0));
        x.district(0, 0);
        Check.isThrown(Edge.NONE, () -> way.of(x, 0, 1));
        x.pass(1);
        Check.is(1, way.of(x, 0, 1));
        Check.isThrown(Edge.NONE, () -> way.of(x, 0, 3));
    }

    @Sentence(of = 13, value = "Throws `NoSuchElementException` if the map knows no way")
    static void noDistance() {
        knownAndUnknown(CanalMaps::distance);
    }

    @Sentence(of = 14, value = "Throws `NoSuchElementException` if the map knows no way")
    static void noDistanceAgain() {
        knownAndUnknown(CanalMaps::distanceAgain);
    }

    // Promise 15

    @Sentence(of = 15, value = {"Returns the next surveyor of a way to another one by the map of a surveyor.",
            "Returns the next surveyor."})
    static void nextSurveyors() {
        int[][] due = {{-1, 1, 1, 1}, {0, -1, 2, 2}, {1, 1, -1, 3}, {2, 2, 2, -1}};
        for (int one = 0; one < 4; one++) {
            for (int other = 0; other < 4; other++) {
                int a = one;
                int b = other;
                if (a != b) {
                    Edge.is(due[a][b], WayEdges::six, x -> x.next(a, b));
                }
            }
        }
        // by its map, not by the canals, and not by the map of the next one
        CanalMaps x = six();
        x.canal(2, 3, 9);
        Surveys.loseUntil(x, 0);
        Check.is(1, x.next(0, 3));
        Check.is(3, x.next(2, 3));
        Check.is(2, x.next(1, 3));
        x.pass(15);
        Check.is(3, x.next(0, 3));
        // a way that costs 7 both by 1 and straight on begins with the lowest, which is 1
        CanalMaps y = six();
        y.canal(2, 3, 4);
        Surveys.settle(y);
        Check.is(7, y.distance(0, 3));
        Check.is(1, y.next(0, 3));
        Check.is(0, y.next(3, 0));
    }

    @Sentence(of = 15, value = "Throws `IndexOutOfBoundsException` if there is no such surveyor, for either")
    static void nextOfSurveyorsOutside() {
        surveyorsOutside(CanalMaps::next);
    }

    @Sentence(of = 15, value = "Throws `NoSuchElementException` if it is the same, or the map knows no way")
    static void noNext() {
        for (int surveyor = 0; surveyor < 6; surveyor++) {
            int alike = surveyor;
            Edge.isThrown(Edge.NONE, WayEdges::six, x -> x.next(alike, alike));
        }
        for (int[] pair : new int[][] {{0, 4}, {4, 0}, {0, 5}, {5, 0}, {3, 5}, {4, 5}, {5, 4}}) {
            Edge.isThrown(Edge.NONE, WayEdges::six, x -> x.next(pair[0], pair[1]));
        }
        Edge.isThrown(Edge.NONE, () -> Surveys.of(1), x -> x.next(0, 0));
    }

    // Promise 16

    @Sentence(of = 16, value = {"Returns to whom the map of a surveyor knows a way.",
            "Returns the set of them, itself included, bit k for the surveyor k."})
    static void thoseWhoAreReached() {
        int[] due = {15, 15, 15, 15, 16, 32};
        for (int surveyor = 0; surveyor < 6; surveyor++) {
            int asked = surveyor;
            Edge.is(due[surveyor], WayEdges::six, x -> x.reached(asked));
            Edge.is(63, () -> Surveys.mesh(6), x -> x.reached(asked));
            Edge.is(1 << surveyor, () -> Surveys.of(6), x -> x.reached(asked));
        }
        Edge.is(1, () -> Surveys.of(1), x -> x.reached(0));
        // each pair, and no one else
        for (int one = 0; one < 6; one++) {
            for (int other = 0; other < one; other++) {
                CanalMaps x = Surveys.of(6);
                x.canal(one, other, 9);
                x.pass(1);
                Check.is((1 << one) + (1 << other), x.reached(one));
                Check.is((1 << one) + (1 << other), x.reached(other));
            }
        }
        CanalMaps y = six();
        y.close(0, 1);
        y.close(0, 3);
        Surveys.loseUntil(y, 0);
        Check.is(1, y.reached(0));
        Check.is(15, y.reached(2));
    }

    @Sentence(of = 16, value = "Throws `IndexOutOfBoundsException` if there is no such surveyor")
    static void reachedOfSurveyorsOutside() {
        for (int bad : Edge.outside(0, 5)) {
            Edge.isThrown(Edge.NO_INDEX, WayEdges::six, x -> x.reached(bad));
        }
        Edge.isThrown(Edge.NO_INDEX, CanalMaps::new, x -> x.reached(0));
        Edge.isThrown(Edge.NO_INDEX, () -> Surveys.of(3), x -> x.reached(3));
    }

    // Promise 17

    @Sentence(of = 17, value = {"Follows a way.", "Returns the sum of the costs of the canals by which one goes, 0 to"})
    static void sumsOfCanals() {
        distances(CanalMaps::follow);
        // the costs are those of the canals, whatever the maps tell
        CanalMaps x = Surveys.row(4);
        x.canal(1, 2, 5);
        x.canal(2, 3, 8);
        Surveys.loseUntil(x, 0);
        Check.is(3, x.distance(0, 3));
        Check.is(14, x.follow(0, 3));
        Check.is(6, x.follow(0, 2));
        Check.is(1, x.follow(0, 1));
        Check.is(0, x.follow(0, 0));
        Check.is(14, x.follow(3, 0));
    }

    @Sentence(of = 17, value = "Throws `IndexOutOfBoundsException` if there is no such surveyor, for either")
    static void followOfSurveyorsOutside() {
        surveyorsOutside(CanalMaps::follow);
    }

    @Sentence(of = 17, value = "Throws `NoSuchElementException` if it fails")
    static void noFollowing() {
        for (int[] pair : new int[][] {{0, 4}, {4, 0}, {0, 5}, {5, 0}, {3, 5}}) {
            Edge.isThrown(Edge.NONE, WayEdges::six, x -> x.follow(pair[0], pair[1]));
        }
        // the last map on the way is the one that knows no more
        CanalMaps x = six();
        x.close(0, 3);
        x.close(2, 3);
        Surveys.loseUntil(x, 0);
        Check.is(6, x.distance(1, 3) + 1);
        Check.isThrown(Edge.NONE, () -> x.follow(1, 3));
        Check.isThrown(Edge.NONE, () -> x.follow(2, 3));
        Check.is(2, x.follow(1, 2));
        // 1 has closed its canal to 3 and goes by 0, which does not know it and goes by 1
        CanalMaps y = Surveys.of(6);
        y.canal(5, 4, 1);
        y.canal(4, 0, 1);
        y.canal(0, 1, 1);
        y.canal(1, 3, 1);
        y.canal(0, 2, 5);
        y.canal(2, 3, 5);
        Surveys.settle(y);
        Check.is(4, y.follow(5, 3));
        y.close(1, 3);
        Surveys.loseUntil(y, 0);
        Check.is(4, y.distance(5, 3));
        for (int surveyor : new int[] {0, 1, 4, 5}) {
            Check.isThrown(Edge.NONE, () -> y.follow(surveyor, 3));
        }
        Check.is(5, y.follow(2, 3));
        Check.is(3, y.follow(5, 1));
        // as soon as 0 knows it, the way goes by 2
        y.canal(0, 1, 2);
        y.pass(1);
        Check.is(2, y.next(0, 3));
        Check.is(12, y.follow(1, 3));
    }

    // Promise 18

    @Sentence(of = 18, value = {"Returns the distance by the canals between neighbours, as they are.",
            "Returns the distance, 0 to itself."})
    static void realDistances() {
        distances(CanalMaps::real);
        // at once, before any letter has come
        CanalMaps x = Surveys.of(4);
        x.canal(0, 1, 3);
        Check.is(3, x.real(1, 0));
        x.canal(1, 2, 4);
        Check.is(7, x.real(0, 2));
        x.canal(0, 2, 7);
        Check.is(7, x.real(0, 2));
        x.canal(0, 2, 6);
        Check.is(6, x.real(0, 2));
        x.close(0, 2);
        Check.is(7, x.real(2, 0));
        x.close(0, 1);
        Check.isThrown(Edge.NONE, () -> x.real(2, 0));
        Check.is(4, x.real(2, 1));
    }

    @Sentence(of = 18, value = "Throws `IndexOutOfBoundsException` if there is no such surveyor, for either")
    static void realOfSurveyorsOutside() {
        surveyorsOutside(CanalMaps::real);
    }

    @Sentence(of = 18, value = "Throws `NoSuchElementException` if there is no way")
    static void noRealWay() {
        for (int[] pair : new int[][] {{0, 4}, {4, 0}, {0, 5}, {5, 0}, {3, 5}, {5, 4}}) {
            Edge.isThrown(Edge.NONE, WayEdges::six, x -> x.real(pair[0], pair[1]));
        }
        // a way through another district is none, even to one of the same
        CanalMaps x = Surveys.row(3);
        Check.is(2, x.real(0, 2));
        x.district(1, 1);
        Check.isThrown(Edge.NONE, () -> x.real(0, 2));
        Check.isThrown(Edge.NONE, () -> x.real(0, 1));
        x.district(0, 1);
        Check.is(1, x.real(0, 1));
        Check.isThrown(Edge.NONE, () -> x.real(0, 2));
    }

    // Promise 19

    @Sentence(of = 19, value = {"Returns whether the map of a surveyor knows a way just to those to whom there is one,",
            "Returns whether it is so."})
    static void mapsThatAreRight() {
        for (int surveyor = 0; surveyor < 6; surveyor++) {
            int asked = surveyor;
            Edge.is(true, WayEdges::six, x -> x.isRight(asked));
            Edge.is(true, () -> Surveys.of(6), x -> x.isRight(asked));
        }
        // a distance that is 1 too small, and then 1 too great
        CanalMaps x = six();
        x.canal(2, 3, 4);
        Surveys.loseUntil(x, 0);
        Check.is(6, x.distance(0, 3));
        Check.is(7, x.real(0, 3));
        Check.is(false, x.isRight(0));
        Check.is(true, x.isRight(2));
        Check.is(true, x.isRight(4));
        Check.is(true, x.isRight(5));
        CanalMaps y = six();
        y.canal(2, 3, 2);
        Surveys.loseUntil(y, 0);
        Check.is(6, y.distance(0, 3));
        Check.is(5, y.real(0, 3));
        Check.is(false, y.isRight(0));
        // a cost that makes no difference, as the way does not lead there
        CanalMaps z = six();
        z.canal(0, 3, 8);
        Surveys.loseUntil(z, 0);
        Check.is(true, z.isRight(1));
        z.canal(0, 3, 6);
        Surveys.loseUntil(z, 0);
        Check.is(true, z.isRight(1));
        z.canal(0, 3, 3);
        Surveys.loseUntil(z, 0);
        Check.is(false, z.isRight(1));
    }

    /** A way to one too many, and to one too few. */
    @Sentence(of = 19, value = "Returns whether the map of a surveyor knows a way just to those to whom there is one,")
    static void waysTooManyAndTooFew() {
        CanalMaps x = Surveys.row(3);
        x.close(1, 2);
        Check.is(7, x.reached(0));
        Check.is(false, x.isRight(0));
        Check.is(true, x.isRight(1));
        Check.is(true, x.isRight(2));
        x.pass(1);
        Check.is(3, x.reached(0));
        Check.is(true, x.isRight(0));
        x.canal(1, 2, 1);
        Check.is(3, x.reached(0));
        Check.is(false, x.isRight(0));
        Surveys.settle(x);
        Check.is(true, x.isRight(0));
    }

    /** Whichever one it is, and though all others are right: too near, not there any more, or not there yet. */
    @Sentence(of = 19, value = "Returns whether the map of a surveyor knows a way just to those to whom there is one,")
    static void onlyOneThatIsWrong() {
        for (int pair = 0; pair < 36; pair++) {
            int from = pair / 6;
            int wrong = pair % 6;
            if (from == wrong) {
                continue;
            }
            int between = Surveys.lowestBut(from, wrong);
            for (int kind = 0; kind < 3; kind++) {
                CanalMaps x = Surveys.of(6);
                x.canal(from, between, 1);
                if (kind < 2) {
                    x.canal(between, wrong, 1);
                }
                Surveys.settle(x);
                Check.is(true, x.isRight(from));
                if (kind == 1) {
                    x.close(between, wrong);
                } else {
                    x.canal(between, wrong, 2);
                }
                Surveys.loseUntil(x, 0);
                Check.is(false, x.isRight(from));
                Check.is(kind < 2, x.isRight(between));
            }
        }
    }

    @Sentence(of = 19, value = "Throws `IndexOutOfBoundsException` if there is no such surveyor")
    static void isRightOfSurveyorsOutside() {
        for (int bad : Edge.outside(0, 5)) {
            Edge.isThrown(Edge.NO_INDEX, WayEdges::six, x -> x.isRight(bad));
        }
        Edge.isThrown(Edge.NO_INDEX, CanalMaps::new, x -> x.isRight(0));
        Edge.isThrown(Edge.NO_INDEX, () -> Surveys.of(3), x -> x.isRight(3));
    }
}
