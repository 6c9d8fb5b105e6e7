/** The promises 1 to 7: a new object, and what changes it. */
final class ChangeEdges {
    private ChangeEdges() {
    }

    /** Three surveyors, of whom 2 is of the district 1, and canals 0-1 of cost 4 and 1-2 of cost 6. */
    private static CanalMaps three() {
        CanalMaps x = Surveys.of(3);
        x.canal(0, 1, 4);
        x.district(2, 1);
        x.canal(1, 2, 6);
        return x;
    }

    // Promise 1

    @Sentence(of = 1, value = "Creates a survey without surveyors.")
    static void aNewObject() {
        for (int what = 0; what <= 10; what++) {
            int asked = what;
            Edge.is(0, CanalMaps::new, x -> x.account(asked));
        }
        for (int surveyor : new int[] {0, 1, 5, 6, -1, Integer.MIN_VALUE, Integer.MAX_VALUE}) {
            Edge.isThrown(Edge.NO_INDEX, CanalMaps::new, x -> x.surveyorOf(surveyor, 0));
            Edge.isThrown(Edge.NO_INDEX, CanalMaps::new, x -> x.cost(surveyor, surveyor));
            Edge.isThrown(Edge.NO_INDEX, CanalMaps::new, x -> x.distance(surveyor, surveyor));
            Edge.isThrown(Edge.NO_INDEX, CanalMaps::new, x -> x.real(surveyor, surveyor));
            Edge.isThrown(Edge.NO_INDEX, CanalMaps::new, x -> x.isRight(surveyor));
            Edge.isThrown(Edge.NO_INDEX, CanalMaps::new, x -> x.line(surveyor));
            Edge.isThrown(Edge.NONE, CanalMaps::new, x -> x.busiest(surveyor));
            Edge.isRefused("3 " + surveyor, CanalMaps::new, x -> x.district(surveyor, 1));
            Edge.isRefused("3 " + surveyor, CanalMaps::new, x -> x.canal(surveyor, surveyor, 1));
        }
        Edge.isThrown(Edge.NONE, CanalMaps::new, x -> x.letter(0, 0));
        Edge.isThrown(Edge.NONE, CanalMaps::new, x -> x.reason(false, false));
        Edge.isThrown(Edge.NO_INDEX, CanalMaps::new, x -> x.character(0));
        Edge.isThrown(Edge.NO_NUMBER, CanalMaps::new, x -> x.meanCost());
        Edge.isThrown(Edge.NO_NUMBER, CanalMaps::new, x -> x.lostShare());
        Edge.isThrown(Edge.BAD_STATE, CanalMaps::new, x -> x.undo());
        Edge.isThrown(Edge.BAD_STATE, CanalMaps::new, x -> x.restore());
        Edge.isRefused("7 0", CanalMaps::new, x -> x.lose());
        Edge.is(-1, CanalMaps::new, x -> x.faultPosition());
        Edge.is(0, CanalMaps::new, x -> x.settledIn());
        Edge.is(0, CanalMaps::new, x -> x.save());
        Edge.is(0, CanalMaps::new, x -> x.members(0));
        Edge.is(true, CanalMaps::new, x -> x.agree(0));
        Edge.is(true, CanalMaps::new, x -> x.agreeAgain(2));
        // objects are not bound to one another
        CanalMaps one = Surveys.row(3);
        CanalMaps other = new CanalMaps();
        other.come();
        one.undo();
        Check.is(1, other.account(1));
        Check.is(3, one.account(1));
    }

    // Promise 2

    @Sentence(of = 2, value = {"Lets a surveyor come.", "Returns the number of the surveyor."})
    static void numbersOfThoseWhoCome() {
        for (int before = 0; before < 6; before++) {
            int due = before;
            Edge.isChange(due, () -> Surveys.of(due), x -> x.come());
        }
        // one who was undone comes again with the same number, and a serial from 1
        CanalMaps x = Surveys.of(2);
        x.district(1, 1);
        x.undo();
        x.undo();
        Check.is(1, x.come());
        Check.is(1, x.surveyorOf(1, 1));
        Check.is(0, x.surveyorOf(1, 2));
    }

    @Sentence(of = 2, value = "Throws `UnsupportedOperationException` if it is refused for the reason 2; the reason is kept")
    static void theSeventhIsRefused() {
        Check.is(4, Surveys.of(4).come());
        Check.is(5, Surveys.of(5).come());
        Edge.isRefused("2 6", () -> Surveys.of(6), x -> x.come());
        CanalMaps x = Surveys.of(6);
        for (int turn = 0; turn < 3; turn++) {
            Check.isThrown(Edge.REFUSED, x::come);
            Check.is("2 6", Surveys.reason(x));
        }
        x.undo();
        Check.is(5, x.come());
        Check.isThrown(Edge.REFUSED, x::come);
    }

    // Promise 3

    @Sentence(of = 3, value = {"Opens a canal, or changes its cost.", "Returns the cost before, 0 if there was no canal."})
    static void costsBefore() {
        for (int before = 0; before <= 9; before++) {
            for (int after = 1; after <= 9; after++) {
                CanalMaps x = Surveys.of(2);
                if (before > 0) {
                    x.canal(1, 0, before);
                }
                if (before == after) {
                    continue;
                }
                Check.is(before, x.canal(0, 1, after));
                Check.is(after, x.cost(0, 1));
                Check.is(after, x.cost(1, 0));
                Check.is(1, x.account(2));
            }
        }
        // it was closed in between
        CanalMaps x = three();
        x.close(0, 1);
        Check.is(0, x.canal(0, 1, 4));
        // between districts too, and in either direction
        Edge.isChange(6, ChangeEdges::three, y -> y.canal(2, 1, 5));
        Edge.isChange(0, ChangeEdges::three, y -> y.canal(2, 0, 1));
        Edge.isChange(0, ChangeEdges::three, y -> y.canal(0, 2, 9));
    }

    @Sentence(of = 3, value = "Throws `UnsupportedOperationException`")
    static void canalsThatAreRefused() {
        for (int bad : Edge.outside(0, 2)) {
            Edge.isRefused("3 " + bad, ChangeEdges::three, x -> x.canal(bad, 0, 1));
            Edge.isRefused("3 " + bad, ChangeEdges::three, x -> x.canal(0, bad, 1));
            Edge.isRefused("3 " + bad, ChangeEdges::three, x -> x.canal(bad, bad, 0));
            Edge.isRefused("3 " + bad, ChangeEdges::three, x -> x.canal(bad, -bad, 0));
            Edge.isRefused("3 " + bad, ChangeEdges::three, x -> x.canal(2, bad, 10));
        }
        for (int surveyor = 0; surveyor < 3; surveyor++) {
            int alike = surveyor;
            Edge.isRefused("4 " + alike, ChangeEdges::three, x -> x.canal(alike, alike, 1));
            Edge.isRefused("4 " + alike, ChangeEdges::three, x -> x.canal(alike, alike, 0));
        }
        for (int bad : Edge.outside(1, 9)) {
            Edge.isRefused("1 0", ChangeEdges::three, x -> x.canal(0, 1, bad));
            Edge.isRefused("1 0", ChangeEdges::three, x -> x.canal(2, 0, bad));
        }
        Edge.isRefused("5 0", ChangeEdges::three, x -> x.canal(0, 1, 4));
        Edge.isRefused("5 0", ChangeEdges::three, x -> x.canal(1, 0, 4));
        Edge.isRefused("5 0", ChangeEdges::three, x -> x.canal(2, 1, 6));
        for (int cost = 1; cost <= 9; cost++) {
            int other = cost;
            if (cost != 4) {
                Edge.isChange(4, ChangeEdges::three, x -> x.canal(1, 0, other));
            }
        }
    }

    // Promise 4

    @Sentence(of = 4, value = {"Closes a canal.", "Returns the cost that it had."})
    static void costsOfClosedCanals() {
        for (int cost = 1; cost <= 9; cost++) {
            CanalMaps x = Surveys.of(2);
            x.canal(0, 1, cost);
            Check.is(cost, x.close(cost % 2, 1 - cost % 2));
            Check.is(0, x.account(2));
            Check.is(0, x.surveyorOf(0, 3));
            Check.isThrown(Edge.NONE, () -> x.cost(0, 1));
            Check.isThrown(Edge.NONE, () -> x.cost(1, 0));
        }
        Edge.isChange(4, ChangeEdges::three, x -> x.close(0, 1));
        Edge.isChange(4, ChangeEdges::three, x -> x.close(1, 0));
        Edge.isChange(6, ChangeEdges::three, x -> x.close(1, 2));
        Edge.isChange(6, ChangeEdges::three, x -> x.close(2, 1));
    }

    @Sentence(of = 4, value = "Throws `UnsupportedOperationException`")
    static void closingThatIsRefused() {
        for (int bad : Edge.outside(0, 2)) {
            Edge.isRefused("3 " + bad, ChangeEdges::three, x -> x.close(bad, 0));
            Edge.isRefused("3 " + bad, ChangeEdges::three, x -> x.close(2, bad));
            Edge.isRefused("3 " + bad, ChangeEdges::three, x -> x.close(bad, bad));
            Edge.isRefused("3 " + bad, ChangeEdges::three, x -> x.close(bad, -bad));
        }
        for (int surveyor = 0; surveyor < 3; surveyor++) {
            int alike = surveyor;
            Edge.isRefused("4 " + alike, ChangeEdges::three, x -> x.close(alike, alike));
        }
        Edge.isRefused("6 0", ChangeEdges::three, x -> x.close(0, 2));
        Edge.isRefused("6 0", ChangeEdges::three, x -> x.close(2, 0));
        // a canal is closed once
        CanalMaps x = three();
        x.close(0, 1);
        Check.isThrown(Edge.REFUSED, () -> x.close(0, 1));
        Check.isThrown(Edge.REFUSED, () -> x.close(1, 0));
        Check.is("6 0", Surveys.reason(x));
        Check.is(6, x.close(2, 1));
    }

    // Promise 5

    @Sentence(of = 5, value = {"Gives a surveyor another district.", "Returns the district before."})
    static void districtsBefore() {
        for (int before = 0; before <= 2; before++) {
            for (int after = 0; after <= 2; after++) {
                CanalMaps x = Surveys.of(2);
                Surveys.intoDistrict(x, 1, before);
                if (before != after) {
                    Check.is(before, x.district(1, after));
                }
                Check.is(after, x.surveyorOf(1, 0));
                Check.is(0, x.surveyorOf(0, 0));
            }
        }
        Edge.isChange(0, ChangeEdges::three, x -> x.district(1, 1));
        Edge.isChange(0, ChangeEdges::three, x -> x.district(0, 2));
        Edge.isChange(1, ChangeEdges::three, x -> x.district(2, 0));
    }

    @Sentence(of = 5, value = "Throws `UnsupportedOperationException` if it is refused for the reason 3, 1 or 5; the reason is")
    static void districtsThatAreRefused() {
        for (int bad : Edge.outside(0, 2)) {
            Edge.isRefused("3 " + bad, ChangeEdges::three, x -> x.district(bad, 0));
            Edge.isRefused("3 " + bad, ChangeEdges::three, x -> x.district(bad, bad));
            Edge.isRefused("1 0", ChangeEdges::three, x -> x.district(0, bad));
            Edge.isRefused("1 0", ChangeEdges::three, x -> x.district(2, bad));
        }
        Edge.isRefused("5 0", ChangeEdges::three, x -> x.district(0, 0));
        Edge.isRefused("5 0", ChangeEdges::three, x -> x.district(1, 0));
        Edge.isRefused("5 0", ChangeEdges::three, x -> x.district(2, 1));
        Edge.isRefused("3 6", () -> Surveys.of(6), x -> x.district(6, 1));
        Edge.isChange(0, () -> Surveys.of(6), x -> x.district(5, 2));
    }

    // Promise 6

    @Sentence(of = 6, value = {"Loses the first letter that is on its way.", "Returns the surveyor whose page it has."})
    static void theFirstLetterIsLost() {
        CanalMaps x = Surveys.of(3);
        x.canal(2, 1, 4);
        x.canal(0, 1, 4);
        Check.is("1>2:1.2 2>1:2.2 0>1:0.2 1>0:1.3 1>2:1.3", Surveys.letters(x));
        int[] origins = {1, 2, 0, 1, 1};
        for (int place = 0; place < origins.length; place++) {
            Check.is(5 - place, x.account(3));
            Check.is(origins[place], x.lose());
            Check.is(place + 1, x.account(6));
        }
        Check.is(5, x.account(4));
        Check.is(0, x.account(5));
        // the page that a letter has may be of neither end
        CanalMaps y = Surveys.row(3);
        y.canal(0, 1, 7);
        y.pass(1);
        Check.is("1>2:0.3", Surveys.letters(y));
        Check.is(0, y.lose());
        Edge.isChange(0, ChangeEdges::three, z -> z.lose());
    }

    @Sentence(of = 6, value = "Throws `UnsupportedOperationException` if it is refused for the reason 7; the reason is kept")
    static void thereIsNoLetterToLose() {
        Edge.isRefused("7 0", CanalMaps::new, x -> x.lose());
        Edge.isRefused("7 0", () -> Surveys.row(3), x -> x.lose());
        CanalMaps x = Surveys.of(2);
        x.canal(0, 1, 1);
        Check.is(0, x.lose());
        Check.is(1, x.lose());
        Check.isThrown(Edge.REFUSED, x::lose);
        Check.is("7 0", Surveys.reason(x));
        Check.is(2, x.account(6));
        x.undo();
        Check.is(1, x.lose());
    }

    // Promise 7

    @Sentence(of = 7, value = {"Lets ticks go by, one after the other.", "- `ticks`: how many, 1 to 99",
            "Returns how many letters are on their way then."})
    static void ticksOneAfterTheOther() {
        for (int ticks : new int[] {1, 2, 3, 9, 10, 11, 20, 50, 98, 99}) {
            CanalMaps x = Surveys.of(6);
            CanalMaps y = Surveys.of(6);
            for (int surveyor = 0; surveyor < 5; surveyor++) {
                x.canal(surveyor, surveyor + 1, 2);
                y.canal(surveyor, surveyor + 1, 2);
            }
            int left = 0;
            for (int tick = 0; tick < ticks; tick++) {
                left = y.pass(1);
            }
            Check.is(left, x.pass(ticks));
            Check.is(left, x.account(3));
            Check.is(ticks, x.account(0));
            Check.is(Surveys.letters(y), Surveys.letters(x));
            Check.is(Surveys.accounts(y), Surveys.accounts(x));
            Check.is(Surveys.line(y, 3), Surveys.line(x, 3));
        }
        // letters only where one renewed its page in the last tick
        Check.is(0, Surveys.row(2).pass(8));
        Check.is(2, Surveys.row(2).pass(9));
        Check.is(0, Surveys.row(2).pass(10));
        Check.is(0, Surveys.row(2).pass(98));
        Check.is(2, Surveys.row(2).pass(99));
    }

    @Sentence(of = 7, value = "Throws `UnsupportedOperationException` if it is refused for the reason 1; the reason is kept")
    static void ticksOutOfRange() {
        for (int ticks = -3; ticks <= 103; ticks++) {
            CanalMaps x = three();
            int many = ticks;
            if (ticks >= 1 && ticks <= 99) {
                x.pass(ticks);
                Check.is(ticks, x.account(0));
            } else {
                Check.isThrown(Edge.REFUSED, () -> x.pass(many));
                Check.is("1 0", Surveys.reason(x));
                Check.is(0, x.account(0));
            }
        }
        for (int bad : Edge.outside(1, 99)) {
            Edge.isRefused("1 0", ChangeEdges::three, x -> x.pass(bad));
            Edge.isRefused("1 0", CanalMaps::new, x -> x.pass(bad));
        }
    }
}
