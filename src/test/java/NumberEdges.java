/** The promises 8 to 12: numbers of surveyors, canals, pages and letters. */
final class NumberEdges {
    private NumberEdges() {
    }

    /** 0-1 and 1-2 with the costs 4 and 6, where 0 does not know 2, and 3 of the district 1 with a canal to 0. */
    private static CanalMaps four() {
        CanalMaps x = Surveys.of(4);
        x.district(3, 1);
        x.canal(0, 3, 9);
        x.canal(0, 1, 4);
        x.canal(1, 2, 6);
        x.pass(1);
        return x;
    }

    // Promise 8

    @Sentence(of = 8, value = {"Returns a number of a surveyor.", "- `what`: 0 for the district, 1 for the serial",
            "Returns the number."})
    static void numbersOfSurveyors() {
        // district, serial, neighbours, canals, pages, letters to it
        int[][] due = {{0, 2, 1, 2, 2, 1}, {0, 3, 2, 2, 3, 0}, {0, 2, 1, 1, 2, 1}, {1, 2, 0, 1, 1, 0}};
        CanalMaps x = four();
        Check.is("1>2:0.2 1>0:2.2", Surveys.letters(x));
        for (int surveyor = 0; surveyor < 4; surveyor++) {
            for (int what = 0; what <= 5; what++) {
                Check.is(due[surveyor][what], x.surveyorOf(surveyor, what));
            }
        }
        // none and all
        CanalMaps y = Surveys.of(1);
        int[] alone = {0, 1, 0, 0, 1, 0};
        CanalMaps z = Surveys.mesh(6);
        int[] many = {0, 6, 5, 5, 6, 0};
        for (int what = 0; what <= 5; what++) {
            Check.is(alone[what], y.surveyorOf(0, what));
            Check.is(many[what], z.surveyorOf(5, what));
        }
        z.pass(10 - z.account(0));
        Check.is(5, z.surveyorOf(5, 5));
        z.pass(1);
        Check.is(20, z.surveyorOf(5, 5));
        z.district(5, 2);
        int[] apart = {2, 0, 0, 5, 1, 0};
        for (int what = 0; what <= 5; what++) {
            Check.is(what == 1 ? 8 : apart[what], z.surveyorOf(5, what));
        }
    }

    @Sentence(of = 8, value = "Throws `IndexOutOfBoundsException` if there is no such surveyor")
    static void surveyorsOutside() {
        for (int bad : Edge.outside(0, 3)) {
            for (int what : new int[] {0, 5, -1, 6}) {
                Edge.isThrown(Edge.NO_INDEX, NumberEdges::four, x -> x.surveyorOf(bad, what));
            }
        }
        Edge.isThrown(Edge.NO_INDEX, CanalMaps::new, x -> x.surveyorOf(0, 0));
        Edge.isThrown(Edge.NO_INDEX, () -> Surveys.of(1), x -> x.surveyorOf(1, 0));
        Edge.isThrown(Edge.NO_INDEX, () -> Surveys.of(5), x -> x.surveyorOf(5, 0));
        Edge.isThrown(Edge.NO_INDEX, () -> Surveys.of(6), x -> x.surveyorOf(6, 0));
        Edge.is(0, () -> Surveys.of(6), x -> x.surveyorOf(5, 0));
        // one who came and was undone is none
        CanalMaps x = Surveys.of(3);
        x.undo();
        Check.isThrown(Edge.NO_INDEX, () -> x.surveyorOf(2, 0));
    }

    @Sentence(of = 8, value = "Throws `IllegalArgumentException` if what is not from 0 to 5")
    static void whatOfSurveyorsOutside() {
        for (int bad : Edge.outside(0, 5)) {
            Edge.isThrown(Edge.BAD, NumberEdges::four, x -> x.surveyorOf(0, bad));
            Edge.isThrown(Edge.BAD, NumberEdges::four, x -> x.surveyorOf(3, bad));
        }
    }

    // Promise 9

    @Sentence(of = 9, value = {"Returns the cost of a canal.", "Returns the cost."})
    static void costsOfCanals() {
        CanalMaps x = Surveys.of(6);
        for (int one = 0; one < 6; one++) {
            for (int other = 0; other < one; other++) {
                x.canal(one, other, 1 + (one * 7 + other * 3) % 9);
            }
        }
        for (int one = 0; one < 6; one++) {
            for (int other = 0; other < one; other++) {
                Check.is(1 + (one * 7 + other * 3) % 9, x.cost(one, other));
                Check.is(1 + (one * 7 + other * 3) % 9, x.cost(other, one));
            }
        }
        Edge.is(9, NumberEdges::four, y -> y.cost(3, 0));
        Edge.is(9, NumberEdges::four, y -> y.cost(0, 3));
        Edge.is(3, NumberEdges::four, y -> y.canal(0, 1, 3) - 4 + y.cost(1, 0));
    }

    @Sentence(of = 9, value = "Throws `IndexOutOfBoundsException` if there is no such surveyor, for either")
    static void costsOfSurveyorsOutside() {
        for (int bad : Edge.outside(0, 3)) {
            Edge.isThrown(Edge.NO_INDEX, NumberEdges::four, x -> x.cost(bad, 0));
            Edge.isThrown(Edge.NO_INDEX, NumberEdges::four, x -> x.cost(3, bad));
            Edge.isThrown(Edge.NO_INDEX, NumberEdges::four, x -> x.cost(bad, bad));
            Edge.isThrown(Edge.NO_INDEX, NumberEdges::four, x -> x.cost(bad, -bad));
        }
    }

    @Sentence(of = 9, value = "Throws `NoSuchElementException` if there is no canal")
    static void costsWithoutCanal() {
        for (int one = 0; one < 4; one++) {
            int alike = one;
            Edge.isThrown(Edge.NONE, NumberEdges::four, x -> x.cost(alike, alike));
        }
        Edge.isThrown(Edge.NONE, NumberEdges::four, x -> x.cost(0, 2));
        Edge.isThrown(Edge.NONE, NumberEdges::four, x -> x.cost(2, 0));
        Edge.isThrown(Edge.NONE, NumberEdges::four, x -> x.cost(1, 3));
        CanalMaps x = four();
        x.close(3, 0);
        Check.isThrown(Edge.NONE, () -> x.cost(0, 3));
        x.undo();
        Check.is(9, x.cost(0, 3));
    }

    // Promise 10

    @Sentence(of = 10, value = {"Returns a number of a page in the map of a surveyor.",
            "- `what`: 0 for its serial, 1 for its age, 2 for how many costs it tells", "Returns the number."})
    static void numbersOfPages() {
        CanalMaps x = four();
        int[][] due = {{0, 0, 2, 1, 1}, {0, 1, 3, 1, 2}, {1, 0, 2, 1, 1}, {1, 1, 3, 1, 2}, {1, 2, 2, 1, 1},
            {2, 1, 3, 1, 2}, {2, 2, 2, 1, 1}, {3, 3, 2, 1, 0}};
        for (int[] row : due) {
            for (int what = 0; what <= 2; what++) {
                Check.is(row[2 + what], x.page(row[0], row[1], what));
            }
        }
        // up to five costs, and 1 in the age for each tick
        CanalMaps y = Surveys.mesh(6);
        y.pass(3);
        for (int origin = 0; origin < 6; origin++) {
            Check.is(6, y.page(2, origin, 0));
            Check.is(y.account(0), y.page(2, origin, 1));
            Check.is(5, y.page(2, origin, 2));
        }
    }

    @Sentence(of = 10, value = "Throws `IndexOutOfBoundsException` if there is no such surveyor, for either")
    static void pagesOfSurveyorsOutside() {
        for (int bad : Edge.outside(0, 3)) {
            for (int what : new int[] {0, 2, 3, -1}) {
                Edge.isThrown(Edge.NO_INDEX, NumberEdges::four, x -> x.page(bad, 0, what));
                Edge.isThrown(Edge.NO_INDEX, NumberEdges::four, x -> x.page(0, bad, what));
                Edge.isThrown(Edge.NO_INDEX, NumberEdges::four, x -> x.page(bad, bad, what));
            }
        }
    }

    @Sentence(of = 10, value = "Throws `IllegalArgumentException` if what is not from 0 to 2")
    static void whatOfPagesOutside() {
        for (int bad : Edge.outside(0, 2)) {
            Edge.isThrown(Edge.BAD, NumberEdges::four, x -> x.page(0, 0, bad));
            Edge.isThrown(Edge.BAD, NumberEdges::four, x -> x.page(0, 2, bad));
            Edge.isThrown(Edge.BAD, NumberEdges::four, x -> x.page(3, 0, bad));
        }
    }

    @Sentence(of = 10, value = "Throws `NoSuchElementException` if the map has no such page")
    static void pagesThatAMapDoesNotHave() {
        for (int what = 0; what <= 2; what++) {
            int asked = what;
            for (int[] pair : new int[][] {{0, 2}, {0, 3}, {3, 0}, {1, 3}, {2, 3}, {3, 2}, {2, 0}}) {
                Edge.isThrown(Edge.NONE, NumberEdges::four, x -> x.page(pair[0], pair[1], asked));
            }
        }
        CanalMaps x = four();
        x.pass(1);
        Check.is(2, x.page(0, 2, 0));
        Check.is(2, x.page(2, 0, 0));
        x.district(2, 2);
        Check.isThrown(Edge.NONE, () -> x.page(2, 0, 0));
        Check.is(2, x.page(0, 2, 0));
    }

    // Promise 11

    @Sentence(of = 11, value = {"Returns the cost that a page in the map of a surveyor tells.", "Returns the cost."})
    static void costsThatAPageTells() {
        int[][] due = {{0, 0, 1, 4}, {0, 1, 0, 4}, {0, 1, 2, 6}, {1, 0, 1, 4}, {1, 2, 1, 6}, {2, 1, 0, 4}, {2, 1, 2, 6},
            {2, 2, 1, 6}};
        for (int[] row : due) {
            Edge.is(row[3], NumberEdges::four, x -> x.told(row[0], row[1], row[2]));
        }
        for (int cost = 1; cost <= 9; cost++) {
            CanalMaps x = Surveys.of(2);
            x.canal(0, 1, cost);
            x.pass(1);
            Check.is(cost, x.told(0, 0, 1));
            Check.is(cost, x.told(0, 1, 0));
            x.close(0, 1);
            Check.is(cost, x.told(0, 1, 0));
            Check.isThrown(Edge.NONE, () -> x.told(0, 0, 1));
        }
    }

    @Sentence(of = 11, value = "Throws `IndexOutOfBoundsException` if there is no such surveyor, for any of the three")
    static void toldOfSurveyorsOutside() {
        for (int bad : Edge.outside(0, 3)) {
            Edge.isThrown(Edge.NO_INDEX, NumberEdges::four, x -> x.told(bad, 0, 1));
            Edge.isThrown(Edge.NO_INDEX, NumberEdges::four, x -> x.told(0, bad, 1));
            Edge.isThrown(Edge.NO_INDEX, NumberEdges::four, x -> x.told(0, 1, bad));
            // where the map has no such page, too
            Edge.isThrown(Edge.NO_INDEX, NumberEdges::four, x -> x.told(0, 2, bad));
            Edge.isThrown(Edge.NO_INDEX, NumberEdges::four, x -> x.told(bad, bad, bad));
        }
    }

    @Sentence(of = 11, value = "Throws `NoSuchElementException` if the map has no such page, or it tells no such cost")
    static void costsThatAPageDoesNotTell() {
        int[][] none = {{0, 2, 1}, {3, 0, 1}, {0, 3, 0}, {0, 0, 0}, {0, 0, 2}, {0, 0, 3}, {0, 1, 1}, {0, 1, 3},
            {3, 3, 0}, {3, 3, 3}, {1, 2, 0}};
        for (int[] row : none) {
            Edge.isThrown(Edge.NONE, NumberEdges::four, x -> x.told(row[0], row[1], row[2]));
        }
    }

    // Promise 12

    @Sentence(of = 12, value = {"Returns a number of a letter that is on its way.", "- `place`: its place, from 0 for the",
            "- `what`: 0 for its sender, 1 for its receiver, 2 for", "Returns the number."})
    static void numbersOfLetters() {
        // 1>2:0.2 1>0:2.2
        int[][] due = {{1, 2, 0, 2}, {1, 0, 2, 2}};
        for (int place = 0; place < 2; place++) {
            for (int what = 0; what <= 3; what++) {
                int a = place;
                int b = what;
                Edge.is(due[place][what], NumberEdges::four, x -> x.letter(a, b));
            }
        }
        // many of them, with serials of two digits, from the highest surveyors too
        CanalMaps x = Surveys.of(6);
        for (int turn = 0; turn < 20; turn++) {
            x.canal(5, 4, turn % 2 + 1);
        }
        Check.is(40, x.account(3));
        for (int place = 0; place < 40; place++) {
            Check.is(4 + place % 2, x.letter(place, 0));
            Check.is(5 - place % 2, x.letter(place, 1));
            Check.is(4 + place % 2, x.letter(place, 2));
            Check.is(2 + place / 2, x.letter(place, 3));
        }
    }

    @Sentence(of = 12, value = "Throws `IllegalArgumentException` if what is not from 0 to 3")
    static void whatOfLettersOutside() {
        for (int bad : Edge.outside(0, 3)) {
            for (int place : new int[] {0, 1, 2, -1, Integer.MAX_VALUE}) {
                Edge.isThrown(Edge.BAD, NumberEdges::four, x -> x.letter(place, bad));
            }
            Edge.isThrown(Edge.BAD, CanalMaps::new, x -> x.letter(0, bad));
        }
    }

    @Sentence(of = 12, value = "Throws `NoSuchElementException` if there is no such letter")
    static void lettersOutside() {
        for (int bad : Edge.outside(0, 1)) {
            for (int what = 0; what <= 3; what++) {
                int asked = what;
                Edge.isThrown(Edge.NONE, NumberEdges::four, x -> x.letter(bad, asked));
            }
        }
        Edge.isThrown(Edge.NONE, CanalMaps::new, x -> x.letter(0, 0));
        // those that were lost or have arrived are none
        CanalMaps x = four();
        x.lose();
        Check.is(2, x.letter(0, 2));
        Check.isThrown(Edge.NONE, () -> x.letter(1, 0));
        x.pass(1);
        Check.isThrown(Edge.NONE, () -> x.letter(0, 0));
        // 64 and more
        CanalMaps y = Surveys.of(2);
        for (int turn = 0; turn < 33; turn++) {
            y.canal(0, 1, turn % 2 + 1);
            Check.is(1, y.letter(2 * turn + 1, 0));
            Check.isThrown(Edge.NONE, () -> y.letter(y.account(3), 0));
        }
    }
}
