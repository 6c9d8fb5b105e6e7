/** Makes surveys for tests, and reads several answers of one as a text. */
final class Surveys {
    private Surveys() {
    }

    static CanalMaps of(int surveyors) {
        CanalMaps x = new CanalMaps();
        for (int surveyor = 0; surveyor < surveyors; surveyor++) {
            x.come();
        }
        return x;
    }

    /** Surveyors in a row, with a canal of cost 1 from each to the next, and all letters arrived. */
    static CanalMaps row(int surveyors) {
        CanalMaps x = of(surveyors);
        for (int surveyor = 1; surveyor < surveyors; surveyor++) {
            x.canal(surveyor - 1, surveyor, 1);
        }
        settle(x);
        return x;
    }

    /** Surveyors with a canal of cost 1 between any two, and all letters arrived. */
    static CanalMaps mesh(int surveyors) {
        CanalMaps x = of(surveyors);
        for (int one = 0; one < surveyors; one++) {
            for (int other = one + 1; other < surveyors; other++) {
                x.canal(one, other, 1);
            }
        }
        settle(x);
        return x;
    }

    /** Lets ticks go by until no letter is on its way. */
    static void settle(CanalMaps x) {
        int ticks = x.settledIn();
        if (ticks > 0) {
            x.pass(ticks);
        }
    }

    /** Loses letters until only some are left; a program that keeps them all does not hold it up. */
    static void loseUntil(CanalMaps x, int left) {
        for (int letters = x.account(3); letters > left; letters--) {
            x.lose();
        }
    }

    /** Gives a canal a cost, if it has another one. */
    static void tryCanal(CanalMaps x, int one, int other, int cost) {
        try {
            x.canal(one, other, cost);
        } catch (UnsupportedOperationException soAlready) {
            x.reason(false, false);
        }
    }

    /** The lowest surveyor that is neither of two. */
    static int lowestBut(int one, int other) {
        for (int surveyor = 0; surveyor < 2; surveyor++) {
            if (surveyor != one && surveyor != other) {
                return surveyor;
            }
        }
        return 2;
    }

    static void intoDistrict(CanalMaps x, int surveyor, int district) {
        if (x.surveyorOf(surveyor, 0) != district) {
            x.district(surveyor, district);
        }
    }

    /** The serial of a page in a map, 0 if it has no such page. */
    static int serialOr0(CanalMaps x, int surveyor, int origin) {
        try {
            return x.page(surveyor, origin, 0);
        } catch (java.util.NoSuchElementException none) {
            return 0;
        }
    }

    /** What a call answers, or "none" if there is no such thing. */
    static String answer(java.util.function.Supplier<Object> call) {
        try {
            return "" + call.get();
        } catch (java.util.NoSuchElementException none) {
            return "none";
        }
    }

    static void type(CanalMaps x, String text) {
        for (char sign : text.toCharArray()) {
            x.append(sign);
        }
    }

    static int carryOut(CanalMaps x, String text) {
        type(x, text);
        return x.commands();
    }

    /** All letters on their way: sender, ">", receiver, ":", whose page it has, "." and its serial. */
    static String letters(CanalMaps x) {
        StringBuilder text = new StringBuilder();
        for (int place = 0; place < x.account(3); place++) {
            text.append(place > 0 ? " " : "").append(x.letter(place, 0)).append('>').append(x.letter(place, 1))
                    .append(':').append(x.letter(place, 2)).append('.').append(x.letter(place, 3));
        }
        return text.toString();
    }

    static String line(CanalMaps x, int surveyor) {
        int length = x.line(surveyor);
        StringBuilder text = new StringBuilder();
        for (int index = 0; index < length; index++) {
            text.append(x.character(index));
        }
        return text.toString();
    }

    /** The accounts but that of the undo and that of the text buffer, which are no part of what is undone. */
    static String accounts(CanalMaps x) {
        StringBuilder text = new StringBuilder();
        for (int what = 0; what <= 8; what++) {
            text.append(what > 0 ? " " : "").append(x.account(what));
        }
        return text.toString();
    }

    /** All that can be undone. */
    static String state(CanalMaps x) {
        StringBuilder text = new StringBuilder(accounts(x)).append(" | ").append(letters(x));
        for (int surveyor = 0; surveyor < x.account(1); surveyor++) {
            text.append(" | ").append(line(x, surveyor)).append(" district ").append(x.surveyorOf(surveyor, 0));
            for (int other = 0; other < x.account(1); other++) {
                text.append(' ').append(number(x, surveyor, other, true)).append(' ')
                        .append(number(x, surveyor, other, false));
            }
        }
        return text.toString();
    }

    /** The cost of a canal, or the age of a page, or "-" if there is none. */
    private static String number(CanalMaps x, int one, int other, boolean isCost) {
        try {
            return "" + (isCost ? x.cost(one, other) : x.page(one, other, 1));
        } catch (java.util.NoSuchElementException none) {
            return "-";
        }
    }

    /** The line as it stands. */
    static String written(CanalMaps x) {
        StringBuilder text = new StringBuilder();
        for (int index = 0; index < 512; index++) {
            try {
                text.append(x.character(index));
            } catch (IndexOutOfBoundsException end) {
                break;
            }
        }
        return text.toString();
    }

    /** The reason as below, or "none" if nothing was refused. */
    static String keptReason(CanalMaps x) {
        try {
            return reason(x);
        } catch (java.util.NoSuchElementException none) {
            return "none";
        }
    }

    /** The reason that is kept and its detail, and its cause and the detail of that, if there is one. */
    static String reason(CanalMaps x) {
        String text = x.reason(false, false) + " " + x.reason(false, true);
        try {
            return text + " " + x.reason(true, false) + " " + x.reason(true, true);
        } catch (java.util.NoSuchElementException none) {
            return text;
        }
    }
}
