/** The promises 31 to 36: means and shares, accounts, undo and the snapshot. */
final class AccountEdges {
    private AccountEdges() {
    }

    private static CanalMaps three() {
        CanalMaps x = Surveys.of(3);
        x.canal(0, 1, 4);
        x.canal(1, 2, 7);
        return x;
    }

    // Promise 31

    @Sentence(of = 31, value = {"Returns the mean cost of the canals: the sum divided by their number, both as doubles.",
            "Returns the mean."})
    static void meanCosts() {
        CanalMaps x = Surveys.of(6);
        int sum = 0;
        int count = 0;
        for (int one = 0; one < 6; one++) {
            for (int other = 0; other < one; other++) {
                int cost = 1 + (one * 5 + other * 2) % 9;
                x.canal(one, other, cost);
                sum += cost;
                count++;
                Check.is((double) sum / (double) count, x.meanCost());
            }
        }
        Check.is(15, count);
        // the least and the greatest
        Edge.is(1.0, () -> Surveys.mesh(6), y -> y.meanCost());
        CanalMaps y = Surveys.of(2);
        y.canal(0, 1, 9);
        Check.is(9.0, y.meanCost());
        // those between districts count, those that are closed do not
        CanalMaps z = three();
        Check.is(5.5, z.meanCost());
        z.district(1, 2);
        Check.is(5.5, z.meanCost());
        z.close(1, 0);
        Check.is(7.0, z.meanCost());
        z.undo();
        z.undo();
        z.canal(0, 2, 2);
        Check.is(13.0 / 3.0, z.meanCost());
    }

    @Sentence(of = 31, value = "Throws `ArithmeticException` if there are none")
    static void noCanals() {
        Edge.isThrown(Edge.NO_NUMBER, CanalMaps::new, x -> x.meanCost());
        Edge.isThrown(Edge.NO_NUMBER, () -> Surveys.of(6), x -> x.meanCost());
        CanalMaps x = three();
        x.close(0, 1);
        Check.is(7.0, x.meanCost());
        x.close(1, 2);
        Check.isThrown(Edge.NO_NUMBER, x::meanCost);
        x.undo();
        Check.is(7.0, x.meanCost());
    }

    // Promise 32

    @Sentence(of = 32, value = {"Returns the share of the letters sent so far that were lost, both numbers as floats.",
            "Returns the share."})
    static void lostShares() {
        for (int lost = 0; lost <= 7; lost++) {
            CanalMaps x = Surveys.of(3);
            x.canal(0, 1, 4);
            x.canal(1, 2, 7);
            x.canal(0, 1, 3);
            Check.is(8, x.account(4));
            Surveys.loseUntil(x, 8 - lost);
            Check.is((float) lost / 8.0f, x.lostShare());
        }
        // by a change of district, and as they arrive; none to all
        CanalMaps x = Surveys.of(2);
        x.canal(0, 1, 1);
        Check.is(0.0f, x.lostShare());
        x.pass(1);
        Check.is(0.0f, x.lostShare());
        x.canal(0, 1, 2);
        x.district(0, 1);
        Check.is(0.5f, x.lostShare());
        CanalMaps y = Surveys.of(3);
        y.canal(0, 1, 1);
        y.close(0, 1);
        y.pass(1);
        Check.is(1.0f, y.lostShare());
        y.canal(0, 2, 1);
        y.pass(1);
        Check.is(0.5f, y.lostShare());
        y.canal(0, 2, 2);
        Check.is(2.0f / 6.0f, y.lostShare());
        y.undo();
        Check.is(0.5f, y.lostShare());
    }

    @Sentence(of = 32, value = "Throws `ArithmeticException` if none was sent")
    static void noLetters() {
        Edge.isThrown(Edge.NO_NUMBER, CanalMaps::new, x -> x.lostShare());
        Edge.isThrown(Edge.NO_NUMBER, () -> Surveys.of(6), x -> x.lostShare());
        CanalMaps x = Surveys.of(2);
        x.pass(50);
        x.district(0, 1);
        x.canal(0, 1, 1);
        Check.isThrown(Edge.NO_NUMBER, x::lostShare);
        x.district(1, 1);
        Check.is(0.0f, x.lostShare());
        x.undo();
        Check.isThrown(Edge.NO_NUMBER, x::lostShare);
        // none is on its way any more, but some were sent
        CanalMaps y = Surveys.row(2);
        Check.is(0, y.account(3));
        Check.is(0.0f, y.lostShare());
    }

    // Promise 33

    @Sentence(of = 33, value = {"Returns an account.", "- `what`: 0 for the tick, 1 for the surveyors, 2 for the canals, 3 for",
            "Returns the account."})
    static void accounts() {
        CanalMaps x = new CanalMaps();
        accounts(x, 0, 0, 0, 0, 0, 0, 0, 0, 0, 0, 0);
        x.come();
        accounts(x, 0, 1, 0, 0, 0, 0, 0, 1, 1, 1, 0);
        x.come();
        x.come();
        x.canal(0, 1, 4);
        accounts(x, 0, 3, 1, 2, 2, 0, 0, 5, 3, 4, 0);
        x.canal(1, 2, 7);
        accounts(x, 0, 3, 2, 5, 5, 0, 0, 7, 3, 5, 0);
        x.lose();
        accounts(x, 0, 3, 2, 4, 5, 0, 1, 7, 3, 6, 0);
        // 1.2, 1.3 to 0, 1.3 to 2 and 2.2 to 1 arrive: 2.2 goes on to 0
        x.pass(1);
        accounts(x, 1, 3, 2, 1, 6, 4, 1, 7, 6, 7, 0);
        x.district(2, 1);
        // 1>0:2.2 stays; 2 forgets 1; 1 and 2 renew their pages, and 1 sends its to 0
        accounts(x, 1, 3, 2, 2, 7, 4, 1, 9, 5, 8, 0);
        x.append('t');
        x.append('9');
        accounts(x, 1, 3, 2, 2, 7, 4, 1, 9, 5, 8, 2);
        x.commands();
        // the page 2.2 comes to 0; 0 and 2 and 1 renew theirs not yet but for 0, with the age 10
        accounts(x, 10, 3, 2, 1, 8, 6, 1, 10, 6, 8, 0);
        x.undo();
        accounts(x, 1, 3, 2, 2, 7, 4, 1, 9, 5, 7, 0);
        x.close(1, 2);
        accounts(x, 1, 3, 1, 2, 7, 4, 1, 9, 5, 8, 0);
    }

    private static void accounts(CanalMaps x, int... due) {
        for (int what = 0; what < due.length; what++) {
            Check.is(what + ": " + due[what], what + ": " + x.account(what));
        }
    }

    /** Each letter that was sent is on its way, has arrived, or was lost. */
    @Sentence(of = 33, value = "- `what`: 0 for the tick, 1 for the surveyors, 2 for the canals, 3 for")
    static void lettersAddUp() {
        CanalMaps x = Surveys.of(4);
        int number = 7;
        for (int call = 0; call < 60; call++) {
            number = (number * 1103 + 12347) & 0xffff;
            int one = number % 4;
            switch (number / 4 % 5) {
                case 0 -> x.district(one, (x.surveyorOf(one, 0) + 1) % 3);
                case 1 -> x.pass(1 + number / 32 % 3);
                default -> Surveys.tryCanal(x, one, (one + 1 + number / 64 % 3) % 4, 1 + call % 9);
            }
            Check.is(x.account(4), x.account(3) + x.account(5) + x.account(6));
        }
        Check.isTrue(x.account(5) > 20 && x.account(6) > 20, "too few letters");
    }

    @Sentence(of = 33, value = "Throws `IllegalArgumentException` if what is not from 0 to 10")
    static void whatOutside() {
        for (int bad : Edge.outside(0, 10)) {
            Edge.isThrown(Edge.BAD, AccountEdges::three, x -> x.account(bad));
            Edge.isThrown(Edge.BAD, CanalMaps::new, x -> x.account(bad));
        }
    }

    // Promise 34

    @Sentence(of = 34, value = {"Undoes the latest call that can be undone.",
            "Returns the number of calls that can still be undone."})
    static void undoing() {
        for (int changes = 1; changes <= 12; changes++) {
            CanalMaps x = new CanalMaps();
            for (int change = 0; change < changes; change++) {
                x.pass(10);
            }
            Check.is(Math.min(changes, 8) - 1, x.undo());
            Check.is((changes - 1) * 10, x.account(0));
            Check.is(Math.min(changes, 8) - 1, x.account(9));
        }
        // the latest first, and one that was refused is none
        CanalMaps x = three();
        x.pass(1);
        Check.isThrown(Edge.REFUSED, () -> x.pass(0));
        x.district(0, 2);
        Check.isThrown(Edge.REFUSED, () -> x.district(0, 2));
        String[] states = {Surveys.state(three()), Surveys.state(Surveys.of(3))};
        Check.is(6, x.undo());
        Check.is(0, x.surveyorOf(0, 0));
        Check.is(1, x.account(0));
        Check.is(5, x.undo());
        Check.is(states[0], Surveys.state(x));
        x.undo();
        Check.is(3, x.undo());
        Check.is(states[1], Surveys.state(x));
        // an undone call is no call that can be undone: what follows takes its place
        x.come();
        Check.is(3, x.undo());
        Check.is(3, x.account(1));
        Check.is(2, x.undo());
        Check.is(2, x.account(1));
    }

    @Sentence(of = 34, value = "Throws `IllegalStateException` if there is none")
    static void nothingToUndo() {
        Edge.isThrown(Edge.BAD_STATE, CanalMaps::new, x -> x.undo());
        for (int changes = 1; changes <= 10; changes++) {
            CanalMaps x = new CanalMaps();
            for (int change = 0; change < changes; change++) {
                x.pass(1);
            }
            for (int left = Math.min(changes, 8) - 1; left >= 0; left--) {
                Check.is(left, x.undo());
            }
            Check.isThrown(Edge.BAD_STATE, x::undo);
            Check.isThrown(Edge.BAD_STATE, x::undo);
            Check.is(Math.max(changes - 8, 0), x.account(0));
            x.pass(5);
            Check.is(0, x.undo());
            Check.isThrown(Edge.BAD_STATE, x::undo);
        }
        Edge.isThrown(Edge.BAD_STATE, AccountEdges::restored, x -> x.undo());
    }

    private static CanalMaps restored() {
        CanalMaps x = three();
        x.save();
        x.pass(3);
        x.restore();
        return x;
    }

    // Promise 35

    @Sentence(of = 35, value = {"Saves all that can be undone, in place of an earlier snapshot.",
            "Returns the number of surveyors."})
    static void saving() {
        for (int surveyors = 0; surveyors <= 6; surveyors++) {
            CanalMaps x = Surveys.of(surveyors);
            Check.is(surveyors, x.save());
            Check.is(surveyors, x.account(1));
            Check.is(surveyors, x.account(9));
        }
        // it is no change, and what is undone afterwards is the change before it
        CanalMaps x = three();
        x.save();
        Check.is(5, x.account(9));
        Check.is(4, x.undo());
        Check.is(1, x.account(2));
        Check.is(3, x.restore());
        Check.is(Surveys.state(three()), Surveys.state(x));
        // in place of an earlier one
        CanalMaps y = three();
        y.save();
        y.pass(5);
        y.save();
        y.pass(5);
        y.restore();
        Check.is(5, y.account(0));
        y.restore();
        Check.is(5, y.account(0));
        // the state is saved as it is now, and no call changes what is saved
        CanalMaps z = three();
        z.save();
        z.canal(0, 1, 9);
        z.district(2, 1);
        z.come();
        z.lose();
        z.pass(30);
        Surveys.type(z, "+;x01");
        z.commands();
        z.undo();
        z.settledIn();
        z.restore();
        Check.is(Surveys.state(three()), Surveys.state(z));
    }

    // Promise 36

    @Sentence(of = 36, value = {"Restores what was saved; the snapshot is kept.", "Returns the number of surveyors."})
    static void restoring() {
        for (int surveyors = 0; surveyors <= 6; surveyors++) {
            for (int later = 0; later <= 6; later++) {
                CanalMaps x = Surveys.of(surveyors);
                x.save();
                while (x.account(1) < later) {
                    x.come();
                }
                while (x.account(1) > later && x.account(9) > 0) {
                    x.undo();
                }
                Check.is(surveyors, x.restore());
                Check.is(surveyors, x.account(1));
                Check.is(Surveys.state(Surveys.of(surveyors)), Surveys.state(x));
                Check.is(0, x.account(9));
            }
        }
        // again and again, and the changes after it can be undone down to it
        CanalMaps x = three();
        x.save();
        String state = Surveys.state(x);
        for (int turn = 1; turn <= 3; turn++) {
            x.pass(turn);
            x.district(0, 1);
            Check.is(3, x.restore());
            Check.is(3, x.restore());
            x.come();
            Check.is(1, x.account(9));
            Check.is(0, x.undo());
        }
        Check.is(state, Surveys.state(x));
    }

    @Sentence(of = 36, value = "Throws `IllegalStateException` if there is no snapshot")
    static void noSnapshot() {
        Edge.isThrown(Edge.BAD_STATE, CanalMaps::new, x -> x.restore());
        Edge.isThrown(Edge.BAD_STATE, AccountEdges::three, x -> x.restore());
        CanalMaps x = new CanalMaps();
        Check.isThrown(Edge.BAD_STATE, x::restore);
        x.save();
        Check.is(0, x.restore());
        Check.is(0, x.restore());
        // to undo is not to restore: a snapshot that was never saved does not come of it
        CanalMaps y = three();
        y.undo();
        Check.isThrown(Edge.BAD_STATE, y::restore);
        Check.is(4, y.account(9));
    }
}
