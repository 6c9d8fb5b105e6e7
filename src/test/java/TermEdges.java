/** "Terms" of the document up to the ticks, and those of ways, following and divisions. */
final class TermEdges {
    private TermEdges() {
    }

    // Pages that are newer or older

    /** 1 passes on the page 0.3, while 0.4 comes to 3 by a canal that is shorter. */
    private static CanalMaps olderPageOnItsWay() {
        CanalMaps x = Surveys.row(4);
        x.canal(0, 1, 2);
        x.pass(1);
        x.canal(0, 3, 5);
        x.pass(1);
        return x;
    }

    @Sentence(of = 0, value = "No page takes the place of a newer one.")
    static void noPageTakesThePlaceOfANewerOne() {
        CanalMaps x = olderPageOnItsWay();
        Check.is("2>3:0.3", Surveys.letters(x).substring(0, 7));
        Check.is(4, x.page(3, 0, 0));
        x.pass(1);
        Check.is(4, x.page(3, 0, 0));
        Check.is(5, x.told(3, 0, 3));
        // one that is newer takes the place of it, and one that is the same changes nothing
        x.canal(0, 3, 6);
        x.pass(1);
        Check.is(5, x.page(3, 0, 0));
        Check.is(6, x.told(3, 0, 3));
        Surveys.settle(x);
        Check.is(5, x.page(3, 0, 0));
    }

    @Sentence(of = 0, value = "No page takes the place of a newer one.")
    static void serialsInMapsNeverFall() {
        for (int run = 0; run < 20; run++) {
            CanalMaps x = Surveys.of(4);
            int[] serials = new int[16];
            int number = run;
            for (int call = 0; call < 12; call++) {
                for (int change = 0; change < 3; change++) {
                    number = (number * 1103 + 12347) & 0xffff;
                    int one = number % 4;
                    int other = (one + 1 + number / 4 % 3) % 4;
                    int cost = 1 + (number / 16 + call) % 9;
                    Surveys.tryCanal(x, one, other, cost);
                }
                x.pass(1);
                for (int place = 0; place < 16; place++) {
                    int serial = Surveys.serialOr0(x, place / 4, place % 4);
                    Check.isTrue(serial >= serials[place], "a page took the place of a newer one");
                    serials[place] = serial;
                }
            }
        }
    }

    @Sentence(of = 0, value = "Divisions are rounded down, unless something else is told.")
    static void divisionsThatAreToldOtherwise() {
        CanalMaps x = Surveys.of(3);
        x.canal(0, 1, 1);
        Check.is(1.0, x.meanCost());
        x.canal(1, 2, 2);
        Check.is(1.5, x.meanCost());
        x.canal(0, 2, 5);
        Check.is(8.0 / 3.0, x.meanCost());
        CanalMaps y = Surveys.of(2);
        y.canal(0, 1, 1);
        y.lose();
        Check.is(0.5f, y.lostShare());
    }

    // Surveyors and canals

    @Sentence(of = 0, value = "At most 6 surveyors come, numbered from 0, each of a district, 0, as at first, 1 or 2.")
    static void atMostSixSurveyors() {
        CanalMaps x = new CanalMaps();
        for (int surveyor = 0; surveyor < 6; surveyor++) {
            Check.isThrown(Edge.NO_INDEX, () -> x.surveyorOf(x.account(1), 0));
            Check.is(surveyor, x.come());
            Check.is(surveyor + 1, x.account(1));
            Check.is(0, x.surveyorOf(surveyor, 0));
        }
        Check.isThrown(Edge.REFUSED, x::come);
        Check.isThrown(Edge.REFUSED, x::come);
        Check.is(6, x.account(1));
        Check.isThrown(Edge.NO_INDEX, () -> x.surveyorOf(6, 0));
        x.undo();
        Check.is(5, x.come());
        for (int district : new int[] {1, 2, 0}) {
            x.district(5, district);
            Check.is(district, x.surveyorOf(5, 0));
        }
        // who comes is of the district 0, whatever those are who came before
        CanalMaps y = Surveys.of(1);
        y.district(0, 2);
        y.come();
        Check.is(0, y.surveyorOf(1, 0));
        for (int bad : Edge.outside(0, 2)) {
            Edge.isRefused("1 0", () -> Surveys.of(1), z -> z.district(0, bad));
        }
    }

    @Sentence(of = 0, value = "Between two unlike surveyors there can be a canal with a cost from 1 to 9.")
    static void canalsWithCosts() {
        for (int one = 0; one < 6; one++) {
            for (int other = 0; other < 6; other++) {
                int a = one;
                int b = other;
                if (a == b) {
                    Edge.isRefused("4 " + a, () -> Surveys.of(6), x -> x.canal(a, b, 1));
                    Edge.isThrown(Edge.NONE, () -> Surveys.of(6), x -> x.cost(a, b));
                    continue;
                }
                CanalMaps x = Surveys.of(6);
                for (int cost = 1; cost <= 9; cost++) {
                    Check.is(cost - 1, x.canal(a, b, cost));
                    Check.is(cost, x.cost(a, b));
                    Check.is(cost, x.cost(b, a));
                }
                Check.is(1, x.account(2));
            }
        }
        for (int bad : Edge.outside(1, 9)) {
            Edge.isRefused("1 0", () -> Surveys.of(2), x -> x.canal(0, 1, bad));
            Edge.isRefused("1 0", () -> Surveys.row(2), x -> x.canal(1, 0, bad));
        }
    }

    @Sentence(of = 0, value = "Two surveyors are neighbours if there is a canal between them and they are of the same")
    static void neighbours() {
        for (int district = 0; district < 9; district++) {
            int one = district / 3;
            int other = district % 3;
            CanalMaps x = Surveys.of(3);
            Surveys.intoDistrict(x, 0, one);
            Surveys.intoDistrict(x, 1, other);
            Check.is(0, x.surveyorOf(0, 2));
            Check.isThrown(Edge.NONE, () -> x.real(0, 1));
            x.canal(0, 1, 4);
            boolean areNeighbours = one == other;
            Check.is(areNeighbours ? 1 : 0, x.surveyorOf(0, 2));
            Check.is(areNeighbours ? 1 : 0, x.surveyorOf(1, 2));
            Check.is(0, x.surveyorOf(2, 2));
            Check.is(areNeighbours ? 2 : 0, x.account(3));
            Check.is(areNeighbours ? "4" : "none", Surveys.answer(() -> x.real(1, 0)));
            x.close(1, 0);
            Check.is(0, x.surveyorOf(0, 2));
        }
    }

    // Pages and letters

    @Sentence(of = 0, value = "A page of a surveyor tells a serial, when it was made, and the cost of the canal to each")
    static void whatAPageTells() {
        CanalMaps x = Surveys.of(6);
        Check.is(0, x.page(0, 0, 2));
        for (int other = 1; other < 6; other++) {
            x.canal(0, other, other + 4);
            Check.is(other, x.page(0, 0, 2));
            Check.is(other + 1, x.page(0, 0, 0));
            Check.is(other + 4, x.told(0, 0, other));
        }
        // of a canal to another district it tells nothing, neither before nor after
        x.district(3, 1);
        Check.is(4, x.page(0, 0, 2));
        Check.isThrown(Edge.NONE, () -> x.told(0, 0, 3));
        Check.is(0, x.page(3, 3, 2));
        // what a page tells is what there was then
        CanalMaps y = Surveys.row(2);
        y.canal(0, 1, 9);
        Check.is(1, y.told(1, 0, 1));
        Check.is(9, y.told(1, 1, 0));
        y.close(0, 1);
        Check.is(1, y.told(1, 0, 1));
        Check.isThrown(Edge.NONE, () -> y.told(1, 1, 0));
    }

    @Sentence(of = 0, value = "Its age is how many ticks went by since it was made.")
    static void ages() {
        CanalMaps x = Surveys.row(2);
        // the pages were made at the tick 0, and one tick went by since
        for (int age = 1; age <= 9; age++) {
            Check.is(age, x.account(0));
            Check.is(age, x.page(0, 0, 1));
            Check.is(age, x.page(0, 1, 1));
            x.pass(1);
        }
        Check.is(0, x.page(0, 0, 1));
        Check.is(10, x.page(0, 1, 1));
        x.come();
        Check.is(0, x.page(2, 2, 1));
        x.pass(1);
        Check.is(1, x.page(2, 2, 1));
        // a letter's page was made before it arrives
        Check.is(1, x.page(0, 1, 1));
        x.canal(0, 1, 5);
        Check.is(0, x.page(0, 0, 1));
        Check.is(1, x.page(0, 1, 1));
    }

    @Sentence(of = 0, value = "A surveyor's map has its own page and at most one page of each other surveyor.")
    static void pagesOfAMap() {
        CanalMaps x = Surveys.of(6);
        for (int surveyor = 0; surveyor < 6; surveyor++) {
            Check.is(1, x.surveyorOf(surveyor, 4));
            Check.is(surveyor + ":1", Surveys.line(x, surveyor));
        }
        Check.is(6, x.account(8));
        CanalMaps y = Surveys.mesh(6);
        Check.is(36, y.account(8));
        y.canal(0, 1, 2);
        y.pass(30);
        for (int surveyor = 0; surveyor < 6; surveyor++) {
            Check.is(6, y.surveyorOf(surveyor, 4));
        }
        Check.is(36, y.account(8));
        // its own page stays where all others are forgotten
        y.district(5, 1);
        Check.is(1, y.surveyorOf(5, 4));
        Check.is(31, y.account(8));
    }

    @Sentence(of = 0, value = "To renew its page, a surveyor makes one with a serial that is 1 more than that of its own")
    static void renewing() {
        CanalMaps x = Surveys.of(1);
        Check.is(1, x.surveyorOf(0, 1));
        for (int serial = 2; serial <= 12; serial++) {
            x.district(0, serial % 2 + 1);
            Check.is(serial, x.surveyorOf(0, 1));
            Check.is(serial, x.page(0, 0, 0));
            Check.is(1, x.surveyorOf(0, 4));
            Check.is(serial, x.account(7));
            Check.is(0, x.account(4));
        }
        // the lowest neighbour first, whatever order their canals were opened in
        CanalMaps y = Surveys.of(6);
        for (int other : new int[] {4, 0, 5, 1, 3}) {
            y.canal(other, 2, 3);
        }
        Surveys.loseUntil(y, 0);
        y.pass(9);
        y.pass(1);
        Check.is("0>2:0.3 1>2:1.3 2>0:2.7 2>1:2.7 2>3:2.7 2>4:2.7 2>5:2.7 3>2:3.3 4>2:4.3 5>2:5.3",
                Surveys.letters(y));
        Check.is(7, y.surveyorOf(2, 1));
    }

    @Sentence(of = 0, value = "A surveyor who comes renews its page at once.")
    static void whoComesRenewsItsPageAtOnce() {
        CanalMaps x = Surveys.row(2);
        x.pass(4);
        int made = x.account(7);
        int sent = x.account(4);
        x.come();
        Check.is("2:1", Surveys.line(x, 2));
        Check.is(0, x.page(2, 2, 1));
        Check.is(0, x.page(2, 2, 2));
        Check.is(made + 1, x.account(7));
        Check.is(sent, x.account(4));
        Check.isThrown(Edge.NONE, () -> x.page(2, 0, 0));
        Check.isThrown(Edge.NONE, () -> x.page(0, 2, 0));
        Edge.isRefused("2 6", () -> Surveys.of(6), y -> y.come());
    }

    @Sentence(of = 0, value = "To send a page to a surveyor puts a letter with it behind all letters that are on their way.")
    static void lettersAreSentBehindAllOthers() {
        CanalMaps x = Surveys.of(3);
        Check.is("", Surveys.letters(x));
        x.canal(1, 2, 1);
        Check.is("1>2:1.2 2>1:2.2", Surveys.letters(x));
        x.canal(0, 1, 1);
        Check.is("1>2:1.2 2>1:2.2 0>1:0.2 1>0:1.3 1>2:1.3", Surveys.letters(x));
        x.lose();
        x.canal(1, 2, 2);
        Check.is("2>1:2.2 0>1:0.2 1>0:1.3 1>2:1.3 1>0:1.4 1>2:1.4 2>1:2.3", Surveys.letters(x));
        // what is sent on, or back, comes behind those of the same tick, too
        x.pass(1);
        Check.is("1>0:2.2 1>2:0.2 1>0:2.3", Surveys.letters(x));
        x.canal(0, 1, 3);
        Check.is("1>0:2.2 1>2:0.2 1>0:2.3 0>1:0.3 1>0:1.5 1>2:1.5", Surveys.letters(x));
    }

    // Changes of canals

    @Sentence(of = 0, value = "When a canal between surveyors of the same district is opened, closed, or gets another cost,")
    static void changesOfCanals() {
        for (int turn = 0; turn < 2; turn++) {
            int one = turn == 0 ? 0 : 1;
            int other = 1 - one;
            CanalMaps x = Surveys.of(2);
            x.canal(one, other, 1);
            Check.is("0>1:0.2 1>0:1.2", Surveys.letters(x));
            x.canal(one, other, 2);
            Check.is("0>1:0.2 1>0:1.2 0>1:0.3 1>0:1.3", Surveys.letters(x));
            x.close(one, other);
            // both renew their pages, which go to no one
            Check.is("0>1:0.2 1>0:1.2 0>1:0.3 1>0:1.3", Surveys.letters(x));
            Check.is("0:4", Surveys.line(x, 0));
            Check.is("1:4", Surveys.line(x, 1));
            Check.is(8, x.account(7));
        }
        CanalMaps y = Surveys.of(3);
        y.district(1, 1);
        int made = y.account(7);
        y.canal(0, 1, 1);
        y.canal(1, 0, 2);
        y.close(0, 1);
        Check.is(made, y.account(7));
        Check.is(0, y.account(4));
        // what is refused renews no page
        y.canal(0, 2, 5);
        made = y.account(7);
        Check.isThrown(Edge.REFUSED, () -> y.canal(0, 2, 5));
        Check.isThrown(Edge.REFUSED, () -> y.close(0, 1));
        Check.is(made, y.account(7));
    }

    @Sentence(of = 0, value = "When a surveyor gets another district, all letters from it or to it are lost, it forgets all")
    static void changesOfDistricts() {
        CanalMaps x = Surveys.row(5);
        x.district(0, 1);
        Surveys.settle(x);
        x.canal(1, 2, 2);
        x.canal(2, 3, 2);
        x.canal(3, 4, 2);
        Check.is("1>2:1.5 2>1:2.4 2>3:2.4 2>1:2.5 2>3:2.5 3>2:3.4 3>4:3.4 3>2:3.5 3>4:3.5 4>3:4.3",
                Surveys.letters(x));
        int lost = x.account(6);
        int made = x.account(7);
        // to and from 1: three are lost; 0 of the district 1, 1 and 2 of the district 0 renew their pages
        x.district(1, 1);
        Check.is("2>3:2.4 2>3:2.5 3>2:3.4 3>4:3.4 3>2:3.5 3>4:3.5 4>3:4.3 0>1:0.4 1>0:1.6 2>3:2.6",
                Surveys.letters(x));
        Check.is(lost + 3, x.account(6));
        Check.is(made + 3, x.account(7));
        Check.is("1:6,0=1", Surveys.line(x, 1));
        Check.is("2:6,3=2", Surveys.line(x, 2).substring(16, 23));
        // others keep its page, and a page that it sent and that another one passed on goes its way
        Check.is(4, x.page(2, 1, 0));
        Check.is(1, x.district(1, 2));
        Check.is("0:5", Surveys.line(x, 0));
        Check.is("1:7", Surveys.line(x, 1));
        Check.is(7, x.surveyorOf(2, 1));
    }

    /** Letters with its page that others send to others are neither from it nor to it. */
    @Sentence(of = 0, value = "When a surveyor gets another district, all letters from it or to it are lost, it forgets all")
    static void lettersOfOthersWithItsPageGoOn() {
        CanalMaps x = Surveys.row(4);
        x.canal(0, 1, 2);
        x.pass(1);
        Check.is("1>2:0.3 2>3:1.4", Surveys.letters(x));
        x.district(0, 1);
        Check.is("1>2:0.3 2>3:1.4 1>2:1.5", Surveys.letters(x));
        Check.is(0, x.account(6));
        x.pass(1);
        Check.is(3, x.page(2, 0, 0));
    }

    // Ways and following

    @Sentence(of = 0, value = "In a map, a canal counts if the pages of both its ends are there, and each tells a cost to")
    static void canalsThatCount() {
        CanalMaps x = Surveys.of(2);
        x.canal(0, 1, 4);
        // only one page, then both
        Check.isThrown(Edge.NONE, () -> x.distance(0, 1));
        Check.isThrown(Edge.NONE, () -> x.distanceAgain(0, 1));
        x.lose();
        x.pass(1);
        Check.is(4, x.distance(0, 1));
        Check.is(4, x.distanceAgain(0, 1));
        Check.isThrown(Edge.NONE, () -> x.distance(1, 0));
        // both pages, but only one that tells a cost: the other's, then its own
        CanalMaps y = Surveys.of(3);
        y.canal(0, 2, 1);
        y.pass(1);
        y.canal(1, 2, 1);
        y.pass(2);
        Check.is("0:2,2=1 1:2,2=1 2:3,0=1,1=1", Surveys.line(y, 0));
        y.canal(0, 1, 7);
        Check.is("0:3,1=7,2=1 1:2,2=1 2:3,0=1,1=1", Surveys.line(y, 0));
        Check.is(2, y.distance(0, 1));
        y.close(1, 2);
        Surveys.loseUntil(y, 0);
        Check.is("0:3,1=7,2=1 1:2,2=1 2:3,0=1,1=1", Surveys.line(y, 0));
        Check.is(2, y.distance(0, 1));
        Check.is(0b111, y.reached(0));
        Check.is("1:4,0=7 2:3,0=1,1=1", Surveys.line(y, 1));
        Check.is(0b010, y.reached(1));
        // from an end it costs what the page of this end tells
        CanalMaps z = Surveys.row(2);
        z.canal(0, 1, 9);
        Check.is("0:3,1=9 1:2,0=1", Surveys.line(z, 0));
        Check.is(9, z.distance(0, 1));
        Check.is(9, z.distanceAgain(0, 1));
        CanalMaps w = Surveys.row(3);
        w.canal(1, 2, 6);
        w.lose();
        w.pass(1);
        Check.is("0:2,1=1 1:3,0=1,2=1 2:2,1=1", Surveys.line(w, 0));
        Check.is("0:2,1=1 1:4,0=1,2=6 2:3,1=6", Surveys.line(w, 1));
    }

    @Sentence(of = 0, value = "The distance is the least sum of costs.")
    static void leastSums() {
        // by 2 and 3 it costs 3: straight on it costs 4, 3 or 2
        int[] due = {3, 3, 2};
        for (int cost = 4; cost >= 2; cost--) {
            CanalMaps x = Surveys.of(4);
            x.canal(0, 2, 1);
            x.canal(2, 3, 1);
            x.canal(3, 1, 1);
            x.canal(0, 1, cost);
            Surveys.settle(x);
            Check.is(due[4 - cost], x.distance(0, 1));
            Check.is(due[4 - cost], x.distanceAgain(0, 1));
            Check.is(due[4 - cost], x.real(0, 1));
        }
        // the longest one that there can be
        CanalMaps y = Surveys.of(6);
        for (int surveyor = 0; surveyor < 5; surveyor++) {
            y.canal(surveyor, surveyor + 1, 9);
        }
        Surveys.settle(y);
        Check.is(45, y.distance(0, 5));
        Check.is(45, y.distanceAgain(5, 0));
        Check.is(45, y.real(0, 5));
        Check.is(45, y.follow(5, 0));
    }

    @Sentence(of = 0, value = "The next surveyor of a way to another one is, of those with which a shortest way can begin,")
    static void theLowestNextSurveyor() {
        // to 5 by 1, 3 or 4, at a cost of 4 each, and straight on: the cost of one is 1 more
        for (int dear = 0; dear < 4; dear++) {
            int[] by = {1, 3, 4};
            CanalMaps x = Surveys.of(6);
            for (int place = 0; place < 3; place++) {
                x.canal(0, by[place], place + 1);
                x.canal(by[place], 5, place < dear ? 4 - place : 3 - place);
            }
            x.canal(0, 5, 4);
            Surveys.settle(x);
            Check.is(4, x.distance(0, 5));
            Check.is(new int[] {1, 3, 4, 5}[dear], x.next(0, 5));
        }
        // an end that is lower than those between
        CanalMaps y = Surveys.of(3);
        y.canal(2, 0, 2);
        y.canal(2, 1, 1);
        y.canal(1, 0, 1);
        Surveys.settle(y);
        Check.is(0, y.next(2, 0));
        y.canal(2, 0, 3);
        Surveys.settle(y);
        Check.is(1, y.next(2, 0));
    }

    @Sentence(of = 0, value = "To follow a way from a surveyor to another one means to go to the next surveyor by the map of")
    static void followingFromMapToMap() {
        CanalMaps x = Surveys.of(4);
        x.canal(0, 1, 1);
        x.canal(1, 3, 1);
        x.canal(1, 2, 1);
        x.canal(2, 3, 1);
        Surveys.settle(x);
        Check.is(2, x.follow(0, 3));
        // 1 knows that its canal to 3 has become dear and goes by 2, 0 does not know it
        x.canal(1, 3, 9);
        Surveys.loseUntil(x, 0);
        Check.is(2, x.distance(0, 3));
        Check.is(2, x.next(1, 3));
        Check.is(3, x.follow(0, 3));
        Check.is(2, x.follow(1, 3));
        Check.is(1, x.follow(2, 3));
        Check.is(0, x.follow(3, 3));
    }

    @Sentence(of = 0, value = "It fails if that map knows no way, if there is no canal to the next surveyor, or if one comes")
    static void followingThatFails() {
        // the first map knows no way, then a later one
        CanalMaps x = Surveys.row(4);
        x.close(2, 3);
        Check.isThrown(Edge.NONE, () -> x.follow(2, 3));
        Check.isThrown(Edge.NONE, () -> x.follow(1, 3));
        Check.isThrown(Edge.NONE, () -> x.follow(0, 3));
        Check.is(3, x.distance(0, 3));
        Check.is(2, x.follow(0, 2));
        // between 0 and 1 for ever, as one comes back to where one began
        CanalMaps y = Surveys.of(5);
        y.canal(0, 1, 1);
        y.canal(1, 3, 1);
        y.canal(0, 2, 2);
        y.canal(2, 3, 2);
        y.canal(4, 0, 1);
        Surveys.settle(y);
        Check.is(2, y.follow(0, 3));
        Check.is(3, y.follow(4, 3));
        y.canal(1, 3, 9);
        Surveys.loseUntil(y, 0);
        Check.is(1, y.next(0, 3));
        Check.is(0, y.next(1, 3));
        Check.isThrown(Edge.NONE, () -> y.follow(0, 3));
        Check.isThrown(Edge.NONE, () -> y.follow(1, 3));
        // one who began elsewhere comes to 0 and 1, and to 0 again
        Check.isThrown(Edge.NONE, () -> y.follow(4, 3));
        Check.is(2, y.follow(2, 3));
        Check.is(3, y.follow(2, 1));
        // a way over all is no second time
        CanalMaps z = Surveys.row(6);
        Check.is(5, z.follow(0, 5));
        Check.is(5, z.follow(5, 0));
    }

    /** A surveyor's own page tells its neighbours as they are, so that a way ends where districts begin. */
    @Sentence(of = 0, value = "A way is followed over canals between districts, too, if a map says so.")
    static void waysToOtherDistricts() {
        CanalMaps x = Surveys.row(4);
        x.district(3, 1);
        Surveys.loseUntil(x, 0);
        Check.is(1, x.next(0, 3));
        Check.is(3, x.distance(0, 3));
        Check.isThrown(Edge.NONE, () -> x.next(2, 3));
        Check.isThrown(Edge.NONE, () -> x.follow(0, 3));
        Check.isThrown(Edge.NONE, () -> x.follow(2, 3));
        // those between may be of another district, as long as maps lead over canals
        Check.is(2, x.follow(0, 2));
        x.district(0, 1);
        x.district(1, 1);
        x.district(2, 1);
        Surveys.settle(x);
        Check.is(3, x.follow(0, 3));
    }
}
