/** The promises 20 to 24: districts, how long letters are on their way, and the order by neighbours. */
final class DistrictEdges {
    private interface Agreement {
        boolean of(CanalMaps x, int district);
    }

    private DistrictEdges() {
    }

    // Promises 20 and 21

    /** 0, 1 and 2 in a row, and 3, of the district 1, alone. */
    private static CanalMaps four() {
        CanalMaps x = Surveys.row(3);
        x.come();
        x.district(3, 1);
        return x;
    }

    private static void agreements(Agreement agreement) {
        Edge.is(true, CanalMaps::new, x -> agreement.of(x, 0));
        Edge.is(true, () -> Surveys.of(1), x -> agreement.of(x, 0));
        Edge.is(false, () -> Surveys.of(2), x -> agreement.of(x, 0));
        Edge.is(true, DistrictEdges::four, x -> agreement.of(x, 0));
        Edge.is(true, DistrictEdges::four, x -> agreement.of(x, 1));
        Edge.is(true, DistrictEdges::four, x -> agreement.of(x, 2));
        // two of one district that have no canal do not know one another
        CanalMaps x = four();
        x.district(3, 0);
        Check.is(false, agreement.of(x, 0));
        Check.is(true, agreement.of(x, 1));
        // any one of them whose map has a page less, or one that is older by 1
        for (int surveyor = 0; surveyor < 3; surveyor++) {
            CanalMaps y = four();
            y.district(surveyor, 2);
            Surveys.settle(y);
            y.district(surveyor, 0);
            Surveys.loseUntil(y, 0);
            Check.is(false, agreement.of(y, 0));
        }
        for (int lost = 0; lost <= 3; lost++) {
            CanalMaps y = four();
            y.canal(1, 2, 5);
            Check.is("1>0:1.4 1>2:1.4 2>1:2.3", Surveys.letters(y));
            Surveys.loseUntil(y, 3 - lost);
            Surveys.settle(y);
            // when 1>0:1.4 is lost 0 has an older page of 1
            Check.is(lost == 0, agreement.of(y, 0));
        }
    }

    /** What one of them knows of others who are of another district is nothing to the district. */
    private static void pagesOfOtherDistricts(Agreement agreement) {
        CanalMaps x = Surveys.row(4);
        x.district(3, 1);
        Surveys.settle(x);
        Check.is(4, x.surveyorOf(0, 4));
        Check.is(true, agreement.of(x, 0));
        Check.is(true, agreement.of(x, 1));
        // 2 forgets all of 3, whose page 0 and 1 still have
        x.district(2, 2);
        x.district(2, 0);
        x.canal(0, 1, 2);
        Surveys.settle(x);
        Check.is(4, x.surveyorOf(0, 4));
        Check.is(3, x.surveyorOf(2, 4));
        Check.is(true, agreement.of(x, 0));
        // 3 is of the same district again: now it counts
        x.close(2, 3);
        x.district(3, 0);
        Check.is(false, agreement.of(x, 0));
        Check.is(true, agreement.of(x, 1));
    }

    /** Of a surveyor none but itself may have the page, or all but one, or all with the same serial. */
    private static void serialsThatDiffer(Agreement agreement) {
        CanalMaps x = Surveys.mesh(3);
        Check.is(true, agreement.of(x, 0));
        x.canal(0, 1, 2);
        Check.is("0>1:0.4 0>2:0.4 1>0:1.4 1>2:1.4", Surveys.letters(x));
        Check.is(false, agreement.of(x, 0));
        x.pass(1);
        Check.is(true, agreement.of(x, 0));
        x.pass(1);
        Check.is(true, agreement.of(x, 0));
        // the last two agree with one another, but not with the first
        x.close(0, 1);
        x.close(0, 2);
        Surveys.settle(x);
        Check.is(false, agreement.of(x, 0));
        Check.is(x.page(1, 0, 0), x.page(2, 0, 0));
        Check.isTrue(x.page(0, 0, 0) > x.page(1, 0, 0), "0 has no newer page");
        x.district(0, 2);
        Check.is(true, agreement.of(x, 0));
        Check.is(true, agreement.of(x, 2));
        // as soon as a page is renewed, and no later than its letter has come
        CanalMaps y = Surveys.row(2);
        y.pass(8);
        Check.is(true, agreement.of(y, 0));
        y.pass(1);
        Check.is(false, agreement.of(y, 0));
        y.pass(1);
        Check.is(true, agreement.of(y, 0));
    }

    /** Whichever one it is who renews its page, and whoever has the old one: all else is alike. */
    private static void onlyOneOldPage(Agreement agreement) {
        for (int pair = 0; pair < 36; pair++) {
            int renewed = pair / 6;
            int old = pair % 6;
            if (renewed == old) {
                continue;
            }
            int elsewhere = Surveys.lowestBut(renewed, old);
            CanalMaps x = Surveys.of(6);
            for (int surveyor = 0; surveyor < 6; surveyor++) {
                Surveys.intoDistrict(x, surveyor, surveyor == renewed || surveyor == old ? 0 : 1);
            }
            x.canal(renewed, old, 1);
            x.canal(renewed, elsewhere, 1);
            Surveys.settle(x);
            Check.is(true, agreement.of(x, 0));
            x.district(elsewhere, 2);
            Check.is(1, x.account(3));
            Check.is(false, agreement.of(x, 0));
            Surveys.settle(x);
            Check.is(true, agreement.of(x, 0));
        }
    }

    private static void districtsOutside(Agreement agreement) {
        for (int bad : Edge.outside(0, 2)) {
            Edge.isThrown(Edge.BAD, DistrictEdges::four, x -> agreement.of(x, bad));
            Edge.isThrown(Edge.BAD, CanalMaps::new, x -> agreement.of(x, bad));
        }
        Edge.isThrown(Edge.BAD, () -> Surveys.of(6), x -> agreement.of(x, 3));
        Edge.isThrown(Edge.BAD, () -> Surveys.of(6), x -> agreement.of(x, -1));
    }

    @Sentence(of = 20, value = {"Returns whether all surveyors of a district have the pages of the same surveyors of the",
            "Returns whether it is so."})
    static void agreeing() {
        agreements(CanalMaps::agree);
        pagesOfOtherDistricts(CanalMaps::agree);
        serialsThatDiffer(CanalMaps::agree);
        onlyOneOldPage(CanalMaps::agree);
    }

    @Sentence(of = 21, value = {"Returns the same by a second way: of each surveyor of the district, all of the district",
            "Returns whether it is so."})
    static void agreeingAgain() {
        agreements(CanalMaps::agreeAgain);
        pagesOfOtherDistricts(CanalMaps::agreeAgain);
        serialsThatDiffer(CanalMaps::agreeAgain);
        onlyOneOldPage(CanalMaps::agreeAgain);
    }

    @Sentence(of = 20, value = "Throws `IllegalArgumentException` if there is no such district")
    static void agreeOfDistrictsOutside() {
        districtsOutside(CanalMaps::agree);
    }

    @Sentence(of = 21, value = "Throws `IllegalArgumentException` if there is no such district")
    static void agreeAgainOfDistrictsOutside() {
        districtsOutside(CanalMaps::agreeAgain);
    }

    // Promise 22

    @Sentence(of = 22, value = {"Returns in how many ticks no letter is on its way, if only ticks go by: the first time.",
            "Returns how many, 0 if none is now."})
    static void ticksUntilNoLetterIsOnItsWay() {
        Edge.is(0, CanalMaps::new, x -> x.settledIn());
        Edge.is(0, () -> Surveys.mesh(6), x -> x.settledIn());
        // by the way from the end of a row: one tick for each canal
        for (int canals = 1; canals <= 4; canals++) {
            CanalMaps x = Surveys.row(canals + 1);
            x.canal(0, 1, 2);
            for (int due = canals; due >= 1; due--) {
                Check.is(due, x.settledIn());
                Check.isTrue(x.account(3) > 0, "no letter is on its way");
                x.pass(1);
            }
            Check.is(0, x.settledIn());
            Check.is(0, x.account(3));
        }
        Edge.is(5, () -> apart(0), x -> x.settledIn());
        // the first time, though there will be letters again by the tick 10
        CanalMaps x = Surveys.row(2);
        x.pass(7);
        Check.is(0, x.settledIn());
        x.canal(0, 1, 3);
        Check.is(1, x.settledIn());
        Check.is(0, Surveys.row(2).settledIn());
        // letters that will be lost are on their way until then
        CanalMaps y = Surveys.row(2);
        y.canal(0, 1, 2);
        y.close(0, 1);
        Check.is(1, y.settledIn());
        // nothing changes by the question
        Edge.is(2, () -> Surveys.row(2), z -> z.canal(0, 1, 7) + z.settledIn());
        CanalMaps z = Surveys.row(3);
        z.canal(0, 1, 7);
        String state = Surveys.state(z);
        int undone = z.account(9);
        Check.is(2, z.settledIn());
        Check.is(2, z.settledIn());
        Check.is(state, Surveys.state(z));
        Check.is(undone, z.account(9));
    }

    /** A row of six, whose pages need five ticks from end to end, and where 4 and 5 renew theirs so much later. */
    private static CanalMaps apart(int ticks) {
        CanalMaps x = Surveys.of(6);
        for (int surveyor = 0; surveyor < 5; surveyor++) {
            x.canal(surveyor, surveyor + 1, 1);
        }
        if (ticks > 0) {
            x.pass(ticks);
        }
        x.canal(4, 5, 2);
        return x;
    }

    /** Five ticks later no tick is without a letter; with four or six some are. */
    @Sentence(of = 22, value = "Throws `NoSuchElementException` if that does not come in 99 ticks")
    static void lettersThatNeverEnd() {
        for (int ticks = 0; ticks <= 10; ticks++) {
            int later = ticks;
            int due = firstTickWithoutLetters(apart(later));
            Check.is(ticks == 5, due < 0);
            if (due >= 0) {
                Edge.is(due, () -> apart(later), x -> x.settledIn());
            } else {
                Edge.isThrown(Edge.NONE, () -> apart(later), x -> x.settledIn());
            }
        }
        // it does not come later either, until a canal is closed
        CanalMaps x = apart(5);
        x.pass(99);
        Check.isThrown(Edge.NONE, x::settledIn);
        Check.isTrue(x.account(3) > 0, "no letter is on its way");
        x.close(2, 3);
        CanalMaps y = apart(5);
        y.pass(99);
        y.close(2, 3);
        int due = firstTickWithoutLetters(y);
        Check.isTrue(due > 0, "letters without end");
        Check.is(due, x.settledIn());
    }

    /** Tick by tick, as only what is answered afterwards tells it; -1 if it does not come in 99 ticks. */
    private static int firstTickWithoutLetters(CanalMaps x) {
        for (int tick = 0; tick <= 99; tick++) {
            if (x.account(3) == 0) {
                return tick;
            }
            x.pass(1);
        }
        return -1;
    }

    // Promise 23

    @Sentence(of = 23, value = {"Returns the surveyors of a district.", "Returns the set of them, bit k for the surveyor k."})
    static void surveyorsOfDistricts() {
        for (int district = 0; district <= 2; district++) {
            int asked = district;
            Edge.is(0, CanalMaps::new, x -> x.members(asked));
            for (int surveyors = 1; surveyors <= 6; surveyors++) {
                int many = surveyors;
                Edge.is(district == 0 ? (1 << many) - 1 : 0, () -> Surveys.of(many), x -> x.members(asked));
            }
        }
        for (int surveyor = 0; surveyor < 6; surveyor++) {
            for (int district = 1; district <= 2; district++) {
                CanalMaps x = Surveys.of(6);
                x.district(surveyor, district);
                Check.is(63 - (1 << surveyor), x.members(0));
                Check.is(1 << surveyor, x.members(district));
                Check.is(0, x.members(3 - district));
            }
        }
        CanalMaps x = Surveys.of(6);
        for (int surveyor = 0; surveyor < 6; surveyor++) {
            x.district(surveyor, 2);
        }
        Check.is(0, x.members(0));
        Check.is(0, x.members(1));
        Check.is(63, x.members(2));
    }

    @Sentence(of = 23, value = "Throws `IllegalArgumentException` if there is no such district")
    static void membersOfDistrictsOutside() {
        for (int bad : Edge.outside(0, 2)) {
            Edge.isThrown(Edge.BAD, DistrictEdges::four, x -> x.members(bad));
            Edge.isThrown(Edge.BAD, CanalMaps::new, x -> x.members(bad));
        }
    }

    // Promise 24

    @Sentence(of = 24, value = {"Returns a surveyor by its neighbours: the most first, of several the one whose own page has",
            "- `place`: the place in this order, from 0", "Returns the surveyor."})
    static void orderByNeighbours() {
        for (int surveyor = 0; surveyor < 6; surveyor++) {
            int place = surveyor;
            Edge.is(place, () -> Surveys.of(6), x -> x.busiest(place));
            Edge.is(place, () -> Surveys.mesh(6), x -> x.busiest(place));
        }
        // more neighbours go before a greater serial, and that before a lower number
        CanalMaps x = Surveys.of(5);
        x.canal(3, 4, 1);
        order(x, 3, 4, 0, 1, 2);
        x.district(2, 1);
        order(x, 3, 4, 2, 0, 1);
        x.district(1, 1);
        x.district(1, 0);
        order(x, 3, 4, 1, 2, 0);
        x.canal(4, 0, 1);
        order(x, 4, 0, 3, 1, 2);
        x.canal(3, 1, 1);
        // two each: 4 with the serial 3, 3 with 3; one each: 1 with 4, 0 with 2
        Check.is("3 3 4 2", x.surveyorOf(4, 1) + " " + x.surveyorOf(3, 1) + " " + x.surveyorOf(1, 1) + " "
                + x.surveyorOf(0, 1));
        order(x, 3, 4, 1, 0, 2);
        x.canal(4, 0, 2);
        order(x, 4, 3, 1, 0, 2);
        // a canal to another district makes no neighbour
        x.canal(2, 0, 1);
        x.canal(2, 1, 1);
        x.canal(2, 3, 1);
        order(x, 4, 3, 1, 0, 2);
        x.undo();
        x.undo();
        x.undo();
        x.undo();
        order(x, 3, 4, 1, 0, 2);
    }

    private static void order(CanalMaps x, int... due) {
        for (int place = 0; place < due.length; place++) {
            Check.is(due[place], x.busiest(place));
        }
    }

    @Sentence(of = 24, value = "Throws `NoSuchElementException` if there is no such place")
    static void placesOutside() {
        for (int surveyors = 0; surveyors <= 6; surveyors++) {
            int many = surveyors;
            for (int bad : Edge.outside(0, many - 1)) {
                if (bad < 0 || bad >= many) {
                    Edge.isThrown(Edge.NONE, () -> Surveys.of(many), x -> x.busiest(bad));
                }
            }
            if (many > 0) {
                Edge.is(many - 1, () -> Surveys.of(many), x -> x.busiest(many - 1));
            }
        }
    }
}
