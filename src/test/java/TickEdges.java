/** What "Terms" of the document tells of ticks, and of pages that letters carry. */
final class TickEdges {
    private TickEdges() {
    }

    @Sentence(of = 0, value = "When a tick goes by, its number grows by 1.")
    static void theNumberOfTheTick() {
        CanalMaps x = new CanalMaps();
        Check.is(0, x.account(0));
        x.pass(1);
        Check.is(1, x.account(0));
        x.pass(2);
        Check.is(3, x.account(0));
        x.pass(99);
        Check.is(102, x.account(0));
        Surveys.carryOut(x, "t1;t09;t99");
        Check.is(211, x.account(0));
        // nothing else lets it grow
        x.come();
        x.come();
        x.canal(0, 1, 1);
        x.settledIn();
        x.lose();
        Check.isThrown(Edge.REFUSED, () -> x.pass(0));
        Check.isThrown(Edge.REFUSED, () -> x.pass(100));
        Check.is(211, x.account(0));
    }

    /** Two neighbours with pages of the same age, whose letters are all lost from now on. */
    private static CanalMaps aged(int age) {
        CanalMaps x = Surveys.row(2);
        for (int tick = 1; tick < age; tick++) {
            Surveys.loseUntil(x, 0);
            x.pass(1);
        }
        Surveys.loseUntil(x, 0);
        Check.is(age, x.page(0, 1, 1));
        return x;
    }

    @Sentence(of = 0, value = "First, by surveyors: one forgets the pages of others whose age is 20 or more, and renews its")
    static void forgettingWith20() {
        for (int age = 17; age <= 19; age++) {
            CanalMaps x = aged(age);
            Check.is(2, x.surveyorOf(0, 4));
            x.pass(1);
            Check.is(age == 19 ? 1 : 2, x.surveyorOf(0, 4));
            Check.is(age == 19 ? "none" : "" + (age + 1), Surveys.answer(() -> x.page(0, 1, 1)));
            Check.is(age == 19 ? "none" : "" + (age + 1), Surveys.answer(() -> x.page(1, 0, 1)));
            Check.is(age == 19 ? 2 : 4, x.account(8));
        }
        // the page of a surveyor that can no more be reached is forgotten as well, in the tick 20
        CanalMaps x = Surveys.row(2);
        x.close(0, 1);
        x.pass(18);
        Check.is(19, x.page(0, 1, 1));
        x.pass(1);
        Check.isThrown(Edge.NONE, () -> x.page(0, 1, 1));
        Check.is(20, x.account(0));
    }

    @Sentence(of = 0, value = "First, by surveyors: one forgets the pages of others whose age is 20 or more, and renews its")
    static void renewingWith10() {
        CanalMaps x = Surveys.of(1);
        for (int tick = 1; tick <= 31; tick++) {
            x.pass(1);
            Check.is(tick % 10, x.page(0, 0, 1));
            Check.is(1 + tick / 10, x.page(0, 0, 0));
            Check.is(1 + tick / 10, x.account(7));
        }
        // a page that was renewed for another reason counts from then
        x.come();
        x.pass(4);
        x.canal(0, 1, 1);
        x.pass(9);
        Check.is(9, x.page(0, 0, 1));
        Check.is(5, x.page(0, 0, 0));
        x.pass(1);
        Check.is(0, x.page(0, 0, 1));
        Check.is(6, x.page(0, 0, 0));
        // by surveyors: the lowest one's letters go first, and behind those that are on their way
        CanalMaps y = Surveys.of(3);
        y.canal(0, 1, 1);
        y.canal(1, 2, 1);
        y.pass(9);
        Check.is("", Surveys.letters(y));
        y.pass(1);
        Check.is("0>1:0.3 1>0:1.4 1>2:1.4 2>1:2.3", Surveys.letters(y));
    }

    @Sentence(of = 0, value = "Then the letters that were on their way at the beginning of the tick arrive, one after the")
    static void oneTickForEachCanal() {
        CanalMaps x = Surveys.row(6);
        x.canal(0, 1, 2);
        for (int tick = 1; tick <= 5; tick++) {
            for (int surveyor = 1; surveyor < 6; surveyor++) {
                Check.is(surveyor < tick ? 3 : 2, x.page(surveyor, 0, 0));
            }
            x.pass(1);
        }
        Check.is(3, x.page(5, 0, 0));
        // those that are sent as a tick begins, by renewing, arrive in the next one
        CanalMaps y = Surveys.row(2);
        y.pass(8);
        Check.is(2, y.pass(1));
        Check.is(2, y.page(1, 0, 0));
        Check.is(0, y.pass(1));
        Check.is(3, y.page(1, 0, 0));
        // one after the other: the second letter finds what the first one brought
        CanalMaps z = Surveys.row(3);
        z.canal(0, 1, 2);
        z.canal(0, 1, 3);
        Check.is("0>1:0.3 1>0:1.4 1>2:1.4 0>1:0.4 1>0:1.5 1>2:1.5", Surveys.letters(z));
        z.pass(1);
        Check.is("1>2:0.3 1>2:0.4", Surveys.letters(z));
        Check.is(4, z.page(1, 0, 0));
        Check.is(5, z.page(2, 1, 0));
    }

    @Sentence(of = 0, value = "A letter is lost if sender and receiver are not neighbours any more.")
    static void lettersOfThoseWhoAreNoNeighbours() {
        CanalMaps x = Surveys.of(2);
        x.canal(0, 1, 1);
        x.close(0, 1);
        Check.is(2, x.account(3));
        Check.is(0, x.account(6));
        Check.is(0, x.pass(1));
        Check.is(2, x.account(6));
        Check.is(0, x.account(5));
        Check.isThrown(Edge.NONE, () -> x.page(0, 1, 0));
        // a canal with another cost is a canal, as is one that was closed and opened meanwhile
        for (int turn = 0; turn < 2; turn++) {
            CanalMaps y = Surveys.of(2);
            y.canal(0, 1, 1);
            if (turn == 0) {
                y.close(0, 1);
            }
            y.canal(0, 1, 2);
            y.pass(1);
            Check.is(0, y.account(6));
            Check.is(4, y.account(5));
            Check.is(0, y.account(3));
        }
        // only that letter is lost
        CanalMaps z = Surveys.of(3);
        z.canal(0, 1, 1);
        z.canal(1, 2, 1);
        z.close(1, 2);
        z.pass(1);
        Check.is(4, z.account(5));
        Check.is(2, z.account(6));
        Check.is("0:2,1=1 1:4,0=1", Surveys.line(z, 0));
        Check.is("2:3", Surveys.line(z, 2));
    }

    @Sentence(of = 0, value = "A page that arrives with a serial greater than that of the page of the same surveyor in the")
    static void newerPages() {
        // where there is none: it goes on to all but the sender, the lowest first
        CanalMaps x = Surveys.of(6);
        for (int other : new int[] {5, 3, 1, 0}) {
            x.canal(2, other, 1);
        }
        Surveys.settle(x);
        x.canal(2, 4, 1);
        Surveys.settle(x);
        Check.is("0:2,2=1 1:2,2=1 2:6,0=1,1=1,3=1,4=1,5=1 3:2,2=1 4:2,2=1 5:2,2=1", Surveys.line(x, 5));
        Check.is("2:6,0=1,1=1,3=1,4=1,5=1 4:2,2=1", Surveys.line(x, 4));
        x.canal(3, 2, 7);
        Check.is("2>0:2.7 2>1:2.7 2>3:2.7 2>4:2.7 2>5:2.7 3>2:3.3", Surveys.letters(x));
        x.pass(1);
        Check.is("2>0:3.3 2>1:3.3 2>4:3.3 2>5:3.3", Surveys.letters(x));
        Check.is(7, x.page(5, 2, 0));
        Check.is(3, x.page(2, 3, 0));
        Check.is(2, x.page(5, 3, 0));
        x.pass(1);
        // those at the ends have no neighbour but the sender
        Check.is("", Surveys.letters(x));
        Check.is(3, x.page(5, 3, 0));
        // one that is greater by more than 1 does as well
        CanalMaps y = Surveys.row(2);
        y.canal(0, 1, 2);
        y.canal(0, 1, 3);
        Surveys.loseUntil(y, 2);
        y.pass(1);
        Check.is(4, y.page(0, 1, 0));
        Check.is(4, y.page(1, 0, 0));
    }

    @Sentence(of = 0, value = "If its serial is less, the receiver sends the page of its map back to the sender.")
    static void olderPagesAreAnswered() {
        CanalMaps x = Surveys.row(4);
        x.canal(0, 1, 2);
        x.pass(1);
        x.canal(0, 3, 5);
        x.pass(1);
        Check.is("2>3:0.3 3>0:1.4 1>2:0.4 3>2:0.4 0>1:3.3 2>1:3.3", Surveys.letters(x));
        Check.is(4, x.page(3, 0, 0));
        x.pass(1);
        // 3 answers 2 with 0.4; 2, to whom 0.4 was new as it came from 1, sends it on to 3; 3.3 goes on to 2
        Check.is("3>2:0.4 2>3:0.4 1>2:3.3", Surveys.letters(x));
        Check.is(4, x.page(3, 0, 0));
        x.pass(1);
        Check.is("", Surveys.letters(x));
        // one that is older by more than 1 is answered with the newest as well
        CanalMaps y = Surveys.row(4);
        y.canal(0, 1, 2);
        y.pass(1);
        y.canal(0, 3, 5);
        y.canal(0, 3, 6);
        y.canal(0, 3, 7);
        y.pass(1);
        Check.is(6, y.page(3, 0, 0));
        Check.is("2>3:0.3", Surveys.letters(y).substring(0, 7));
        y.pass(1);
        Check.is("3>2:0.6", Surveys.letters(y).substring(0, 7));
        Check.is(6, y.page(3, 0, 0));
    }

    @Sentence(of = 0, value = "If it is the same, or a page of the receiver itself, nothing is done.")
    static void pagesThatAreTheSame() {
        CanalMaps x = Surveys.mesh(3);
        x.canal(0, 1, 2);
        Check.is("0>1:0.4 0>2:0.4 1>0:1.4 1>2:1.4", Surveys.letters(x));
        x.pass(1);
        Check.is("1>2:0.4 2>1:0.4 0>2:1.4 2>0:1.4", Surveys.letters(x));
        String maps = Surveys.line(x, 0) + Surveys.line(x, 1) + Surveys.line(x, 2);
        int arrived = x.account(5);
        int sent = x.account(4);
        Check.is(0, x.pass(1));
        Check.is(maps, Surveys.line(x, 0) + Surveys.line(x, 1) + Surveys.line(x, 2));
        Check.is(arrived + 4, x.account(5));
        Check.is(sent, x.account(4));
        Check.is(0, x.account(6));
    }

    @Sentence(of = 0, value = "If it is the same, or a page of the receiver itself, nothing is done.")
    static void pagesOfTheReceiverItself() {
        // 2.3 goes round, as the letter to 0 is lost, and comes back to 2
        CanalMaps x = pageGoingRound();
        Check.is(0, x.pass(1));
        Check.is(3, x.surveyorOf(2, 1));
        // an older page of its own is not answered, which would be the first letter then
        CanalMaps y = pageGoingRound();
        y.canal(1, 2, 9);
        Check.is("0>2:2.3 1>0:1.4 1>2:1.4 2>0:2.4 2>1:2.4", Surveys.letters(y));
        y.pass(1);
        Check.is("0>2:1.4 2>0:1.4 0>1:2.4 1>0:2.4", Surveys.letters(y));
        Check.is(4, y.surveyorOf(2, 1));
        Check.is(9, y.told(2, 2, 1));
    }

    private static CanalMaps pageGoingRound() {
        CanalMaps x = Surveys.of(3);
        x.canal(0, 1, 1);
        x.canal(0, 2, 1);
        x.canal(1, 2, 1);
        Surveys.loseUntil(x, 1);
        Check.is("2>1:2.3", Surveys.letters(x));
        x.pass(2);
        Check.is("0>2:2.3", Surveys.letters(x));
        return x;
    }

    // Pages that letters carry

    @Sentence(of = 0, value = "A letter carries the page as it was made, whose age goes on.")
    static void lettersCarryPagesAsTheyWereMade() {
        CanalMaps x = Surveys.row(4);
        x.canal(0, 1, 5);
        x.pass(1);
        Check.is("1>2:0.3 2>3:1.4", Surveys.letters(x));
        // what changes meanwhile does not change the page in the letter
        x.canal(0, 1, 9);
        x.pass(1);
        Check.is(5, x.told(2, 0, 1));
        Check.is(2, x.page(2, 0, 1));
        Check.is(3, x.page(2, 0, 0));
        x.close(0, 1);
        x.pass(1);
        Check.is(5, x.told(3, 0, 1));
        Check.is(3, x.page(3, 0, 1));
        Check.is(9, x.told(2, 0, 1));
        Check.is(2, x.page(2, 0, 1));
    }

    /**
     * The page 3.2 goes round among 0, 1 and 2, as the one behind its receiver forgets it each time,
     * and comes into a map with an age.
     */
    private static CanalMaps withPageOfAge(int age) {
        CanalMaps x = Surveys.of(4);
        x.canal(0, 3, 1);
        x.canal(0, 1, 1);
        x.canal(1, 2, 1);
        x.canal(2, 0, 1);
        x.pass(1);
        x.close(0, 3);
        for (int tick = 2; tick <= age; tick++) {
            int behind = tick % 3;
            x.district(behind, 1);
            x.district(behind, 0);
            Check.isThrown(Edge.NONE, () -> x.page(behind, 3, 0));
            x.pass(1);
        }
        return x;
    }

    @Sentence(of = 0, value = "A page whose age is 20 or more as it arrives comes into a map like others, and is forgotten in")
    static void pagesThatArriveWith20() {
        for (int age = 17; age <= 23; age++) {
            CanalMaps x = withPageOfAge(age);
            int at = (age + 2) % 3;
            Check.is(2, x.page(at, 3, 0));
            Check.is(age, x.page(at, 3, 1));
            Check.is(1, x.told(at, 3, 0));
            x.pass(1);
            Check.is(age + 1 >= 20 ? "none" : "" + (age + 1), Surveys.answer(() -> x.page(at, 3, 1)));
        }
    }
}
