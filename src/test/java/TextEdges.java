/** What "Terms" of the document tells of texts, and the promises 25 to 30: commands, reasons and the line. */
final class TextEdges {
    /** All signs that a command can have, some that lie beside them, and one that is like "+" when cut short. */
    private static final String SIGNS = "+cxslt=;059/:a \u012b";

    private TextEdges() {
    }

    private static CanalMaps three() {
        CanalMaps x = Surveys.of(3);
        x.canal(0, 1, 4);
        return x;
    }

    private static CanalMaps with(CanalMaps x, String text) {
        Surveys.type(x, text);
        return x;
    }

    // Texts

    /** Each command does what its method does, alone and between others. */
    @Sentence(of = 0, value = {"The text buffer holds one or more commands with \";\" between them",
            "The commands are carried out as the methods would, all of them or none."})
    static void commandsAndMethods() {
        String[] texts = {"+", "c02=9", "c20=1", "c01=5", "x01", "x10", "s2=1", "s0=2", "l", "t1", "t9", "t10", "t99",
            "t01", "t09"};
        Edge.Call[] calls = {x -> x.come(), x -> x.canal(0, 2, 9), x -> x.canal(2, 0, 1), x -> x.canal(0, 1, 5),
            x -> x.close(0, 1), x -> x.close(1, 0), x -> x.district(2, 1), x -> x.district(0, 2), x -> x.lose(),
            x -> x.pass(1), x -> x.pass(9), x -> x.pass(10), x -> x.pass(99), x -> x.pass(1), x -> x.pass(9)};
        for (int place = 0; place < texts.length; place++) {
            CanalMaps x = three();
            CanalMaps y = three();
            Check.is(1, with(x, texts[place]).commands());
            calls[place].on(y);
            Check.is(Surveys.state(y), Surveys.state(x));
            CanalMaps z = three();
            CanalMaps w = three();
            Check.is(3, with(z, "t1;" + texts[place].replace("l", "c12=3;l") + ";+").account(10) > 0 ? 3 : 0);
            z.commands();
            w.pass(1);
            if (texts[place].equals("l")) {
                w.canal(1, 2, 3);
            }
            calls[place].on(w);
            w.come();
            Check.is(Surveys.state(w), Surveys.state(z));
        }
    }

    @Sentence(of = 0, value = "The text buffer holds one or more commands with \";\" between them")
    static void oneOrMoreCommands() {
        Edge.is(1, TextEdges::three, x -> with(x, "l").commands());
        Edge.is(2, TextEdges::three, x -> with(x, "l;l").commands());
        Edge.is(3, TextEdges::three, x -> with(x, "l;+;l").commands());
        for (String text : new String[] {"", ";", "l;", ";l", "l;;l", "l l", "ll", "l,l"}) {
            CanalMaps x = with(three(), text);
            Check.isThrown(Edge.BAD, x::commands);
            Check.is(2, x.account(3));
        }
        // the most that there can be: 30 commands of one sign
        CanalMaps x = new CanalMaps();
        for (int index = 0; index < 29; index++) {
            Surveys.type(x, "l;");
        }
        Surveys.type(x, "l");
        Check.is(59, x.account(10));
        Check.isThrown(Edge.REFUSED, x::commands);
        Check.is(-1, x.faultPosition());
    }

    @Sentence(of = 0, value = "All other numbers have one digit.")
    static void numbersOfOneDigit() {
        for (char digit = '0'; digit <= '9'; digit++) {
            int number = digit - '0';
            String pair = number > 2 ? "3 " + number : number == 0 ? "4 0" : "";
            outcome("c0" + digit + "=5", !pair.isEmpty() ? "8 0 " + pair : "");
            outcome("x0" + digit, !pair.isEmpty() ? "8 0 " + pair : number == 2 ? "8 0 6 0" : "");
            outcome("c01=" + digit, number == 0 ? "8 0 1 0" : number == 4 ? "8 0 5 0" : "");
            outcome("s" + digit + "=1", number > 2 ? "8 0 3 " + number : "");
            outcome("s0=" + digit, number == 0 ? "8 0 5 0" : number > 2 ? "8 0 1 0" : "");
            outcome("t" + digit, number == 0 ? "8 0 1 0" : "");
            outcome("t0" + digit, number == 0 ? "8 0 1 0" : "");
            outcome("t" + digit + "0", number == 0 ? "8 0 1 0" : "");
        }
        for (String text : new String[] {"c001=5", "c010=5", "c01=05", "c01=10", "x001", "x010", "s00=1", "s0=01",
            "s0=10", "t001", "t100", "l1", "+1"}) {
            Check.isThrown(Edge.BAD, with(three(), text)::commands);
        }
    }

    private static void outcome(String text, String due) {
        CanalMaps x = with(three(), text);
        if (due.isEmpty()) {
            Check.is(1, x.commands());
        } else {
            Check.isThrown(Edge.REFUSED, x::commands);
            Check.is(due, Surveys.reason(x));
        }
        Check.is(-1, x.faultPosition());
    }

    /** All texts of up to three signs, and those of four that begin like a command. */
    @Sentence(of = 0, value = "The fault position of a text is the index of its first character that cannot continue such a")
    static void faultPositionsOfAllShortTexts() {
        for (char first : SIGNS.toCharArray()) {
            samePosition("" + first);
            for (char second : SIGNS.toCharArray()) {
                samePosition("" + first + second);
                for (char third : SIGNS.toCharArray()) {
                    samePosition("" + first + second + third);
                    for (char fourth : "+=;09".toCharArray()) {
                        samePosition("" + first + second + third + fourth);
                    }
                }
            }
        }
        samePosition("");
    }

    /** In each text that is right, each sign is taken out, doubled, and exchanged for every other one. */
    @Sentence(of = 0, value = "The fault position of a text is the index of its first character that cannot continue such a")
    static void faultPositionsOfTextsThatWereRight() {
        for (String text : new String[] {"c01=5;x10;s2=1;t12;+", "t1;t99;l;l;c20=9", "s0=2;s0=0;c12=1;x12"}) {
            for (int place = 0; place <= text.length(); place++) {
                samePosition(text.substring(0, place));
                if (place < text.length()) {
                    samePosition(text.substring(0, place) + text.substring(place + 1));
                    samePosition(text.substring(0, place) + text.charAt(place) + text.substring(place));
                    for (char sign : SIGNS.toCharArray()) {
                        samePosition(text.substring(0, place) + sign + text.substring(place + 1));
                    }
                }
            }
        }
    }

    private static void samePosition(String text) {
        CanalMaps x = with(three(), text);
        PlainMaps y = new PlainMaps();
        for (char sign : text.toCharArray()) {
            y.append(sign);
        }
        Check.is(outcome(y::commands).equals(IllegalArgumentException.class),
                outcome(x::commands).equals(IllegalArgumentException.class));
        Check.is(text + " " + y.faultPosition(), text + " " + x.faultPosition());
    }

    private static Object outcome(Runnable call) {
        try {
            call.run();
            return "";
        } catch (RuntimeException thrown) {
            return thrown.getClass();
        }
    }

    @Sentence(of = 0, value = "The fault position of a text is the index of its first character that cannot continue such a")
    static void faultPositionsAtTheEnds() {
        position("", 0);
        position("?", 0);
        position("+?", 1);
        position("+;", 2);
        position("c", 1);
        position("c01=", 4);
        position("t", 1);
        position("t12", -1);
        position("t123", 3);
        // 60 signs: the fault is the last one, or the text ends too early
        String long59 = "t12;".repeat(14) + "t12";
        Check.is(59, long59.length());
        position(long59, -1);
        position(long59 + ";", 60);
        position(long59 + "3", 59);
        position(long59.substring(0, 57) + "1x", 58);
        position("t12;".repeat(13) + "c01=5;+", -1);
        position("t12;".repeat(14) + "c01=", 60);
        position("t12;".repeat(14) + "c01", 59);
        position("t1;".repeat(18) + "c01=5;", 60);
        position("+;".repeat(30), 60);
        position("+;".repeat(29) + "+;", 60);
    }

    private static void position(String text, int due) {
        CanalMaps x = with(new CanalMaps(), text);
        Check.is(due >= 0 ? Edge.BAD : "", due >= 0 ? outcome(x::commands) : "");
        if (due < 0) {
            outcome(x::commands);
        }
        Check.is(text + " " + due, text + " " + x.faultPosition());
    }

    /** The last of several commands is refused: what the others did is gone, the pages that they made too. */
    @Sentence(of = 0, value = "The commands are carried out as the methods would, all of them or none.")
    static void allOrNone() {
        for (String text : new String[] {"+;+;+;+", "c12=5;c12=5", "x01;x01", "s1=2;s1=2", "l;l;l", "t9;t0",
            "+;c03=2;l;t3;s2=1;x00"}) {
            CanalMaps x = with(three(), text);
            Check.isThrown(Edge.REFUSED, x::commands);
            Check.is(Surveys.state(three()), Surveys.state(x));
            Check.is(4, x.account(9));
        }
        // the first is refused, and those behind it would not be
        CanalMaps x = with(three(), "x02;+;t1");
        Check.isThrown(Edge.REFUSED, x::commands);
        Check.is(Surveys.state(three()), Surveys.state(x));
        // a later one needs what an earlier one did
        Edge.is(3, TextEdges::three, y -> with(y, "+;c32=5;x23").commands());
        Edge.is(4, TextEdges::three, y -> with(y, "l;l;c01=3;l").commands());
        Edge.is(4, TextEdges::three, y -> with(y, "+;+;+;s5=2").commands());
    }

    // Promise 25

    @Sentence(of = 25, value = {"Appends a character to the text buffer.", "Returns the new length of the buffer."})
    static void lengthsOfTheBuffer() {
        CanalMaps x = new CanalMaps();
        for (int length = 1; length <= 60; length++) {
            Check.is(length, x.append((char) (length * 1000)));
            Check.is(length, x.account(10));
        }
        // it begins anew when it was emptied
        Check.isThrown(Edge.BAD, x::commands);
        Check.is(0, x.account(10));
        Check.is(1, x.append('+'));
        Check.is(1, x.commands());
        Check.is(1, x.append('+'));
        // any character at all is appended
        CanalMaps y = new CanalMaps();
        Check.is(1, y.append((char) 0));
        Check.is(2, y.append((char) 0xffff));
        Check.is(3, y.append((char) 0xd800));
        Check.is(4, y.append('\n'));
    }

    @Sentence(of = 25, value = "Throws `IllegalStateException` if the buffer contains 60 characters")
    static void theFullBuffer() {
        for (int before : new int[] {0, 1, 30, 58, 59}) {
            CanalMaps x = with(new CanalMaps(), "+".repeat(before));
            Check.is(before + 1, x.append(';'));
        }
        for (char sign : new char[] {'+', ';', 'x', (char) 0, (char) 0xffff}) {
            Edge.isThrown(Edge.BAD_STATE, () -> with(three(), "l;".repeat(30)), x -> x.append(sign));
        }
        CanalMaps x = with(three(), "l;".repeat(29) + "l");
        Check.is(60, x.append('l'));
        Check.isThrown(Edge.BAD_STATE, () -> x.append('+'));
        Check.isThrown(Edge.BAD_STATE, () -> x.append('+'));
        Check.isThrown(Edge.BAD, x::commands);
        // what was not appended is no part of the text: "ll" at its end, and no third sign
        Check.is(59, x.faultPosition());
        Check.is(1, x.append('l'));
    }

    // Promise 26

    @Sentence(of = 26, value = {"Carries out the commands in the text buffer, one after the other; if one is refused, none",
            "Returns the number of commands."})
    static void numbersOfCommands() {
        CanalMaps x = new CanalMaps();
        for (int count = 1; count <= 20; count++) {
            Surveys.type(x, "t1" + ";t1".repeat(count - 1));
            Check.is(count, x.commands());
            Check.is(count * (count + 1) / 2, x.account(0));
            Check.is(Math.min(count, 8), x.account(9));
        }
        Edge.isChange(6, TextEdges::three, y -> with(y, "+;l;t1;s0=1;c12=1;x12").commands());
        Edge.isRefused("8 5 6 0", TextEdges::three, y -> with(y, "+;l;t1;s0=1;c12=1;x02").commands());
        Edge.isRefused("8 0 6 0", TextEdges::three, y -> with(y, "x02;+;l;t1").commands());
    }

    @Sentence(of = 26, value = "The buffer is empty afterwards, also if an exception is thrown.")
    static void theBufferIsEmptyAfterwards() {
        String[] texts = {"l", "l;l", "", "x", "l;", "l;l;l", "x02", "l;".repeat(30)};
        for (String text : texts) {
            CanalMaps x = with(three(), text);
            Check.is(text.length(), x.account(10));
            outcome(x::commands);
            Check.is(0, x.account(10));
            // nothing of the text is left
            Check.is(1, x.append('+'));
            Check.is(1, x.commands());
            Check.is(4, x.account(1));
        }
    }

    @Sentence(of = 26, value = "Throws `IllegalArgumentException` if the text has a fault")
    static void faultyTexts() {
        for (String text : new String[] {"", ";", "+;", "l;l;", "+ ", " +", "C01=2", "c01=2x", "t", "t+", "s0=", "x0",
            "x0=1", "l;x01;c01=4;q"}) {
            Edge.isChange(4, TextEdges::three, x -> x.canal(0, 1, 5));
            CanalMaps x = with(three(), text);
            Check.isThrown(Edge.BAD, x::commands);
            Check.is(Surveys.state(three()), Surveys.state(x));
            Check.is(4, x.account(9));
            Check.is("none", Surveys.keptReason(x));
            // the buffer is empty now, and an empty text has a fault too
            Check.isThrown(Edge.BAD, x::commands);
            Check.is(0, x.faultPosition());
        }
    }

    @Sentence(of = 26, value = "Throws `UnsupportedOperationException` if it is refused for the reason 8; the reason is kept")
    static void refusedTexts() {
        String[] texts = {"x02", "t0", "t1;t0", "+;+;+;+", "l;l;l", "c00=1", "s0=0", "c01=4", "s3=1", "s1=3"};
        String[] due = {"8 0 6 0", "8 0 1 0", "8 1 1 0", "8 3 2 6", "8 2 7 0", "8 0 4 0", "8 0 5 0", "8 0 5 0",
            "8 0 3 3", "8 0 1 0"};
        for (int place = 0; place < texts.length; place++) {
            String text = texts[place];
            Edge.isRefused(due[place], TextEdges::three, x -> with(x, text).commands());
        }
        // with eight changes kept, the oldest one is not given up for a refused call
        CanalMaps x = new CanalMaps();
        for (int change = 1; change <= 8; change++) {
            x.pass(change);
        }
        Surveys.type(x, "t1;l");
        Check.isThrown(Edge.REFUSED, x::commands);
        Check.is("8 1 7 0", Surveys.reason(x));
        for (int left = 7; left >= 0; left--) {
            Check.is(left, x.undo());
        }
        Check.is(0, x.account(0));
    }

    // Promise 27

    @Sentence(of = 27, value = {"Returns the fault position of the text of the latest call of commands.",
            "Returns the fault position, or -1 if that text had no fault or there was no such call."})
    static void theLatestFaultPosition() {
        CanalMaps x = three();
        Check.is(-1, x.faultPosition());
        Surveys.type(x, "l;l;y");
        // there was no such call yet
        Check.is(-1, x.faultPosition());
        Check.isThrown(Edge.BAD, x::commands);
        Check.is(4, x.faultPosition());
        Check.is(4, x.faultPosition());
        Surveys.type(x, "y");
        Check.is(4, x.faultPosition());
        Check.isThrown(Edge.BAD, x::commands);
        Check.is(0, x.faultPosition());
        // carried out, and refused: neither had a fault
        Surveys.type(x, "l");
        Check.is(1, x.commands());
        Check.is(-1, x.faultPosition());
        Surveys.type(x, "ly");
        Check.isThrown(Edge.BAD, x::commands);
        Check.is(1, x.faultPosition());
        Surveys.type(x, "t0");
        Check.isThrown(Edge.REFUSED, x::commands);
        Check.is(-1, x.faultPosition());
        Check.isThrown(Edge.BAD, x::commands);
        Check.is(0, x.faultPosition());
        // calls of other methods, refused ones and those that undo, are none of commands
        Check.isThrown(Edge.REFUSED, () -> x.pass(0));
        x.undo();
        x.come();
        Check.is(0, x.faultPosition());
    }

    // Promise 28

    @Sentence(of = 28, value = {"Returns the reason that is kept, its cause, or the detail of one of both.",
            "Returns the reason or the detail."})
    static void reasonsCausesAndDetails() {
        CanalMaps x = with(three(), "l;+;x39");
        Check.isThrown(Edge.REFUSED, x::commands);
        Check.is(8, x.reason(false, false));
        Check.is(2, x.reason(false, true));
        Check.is(3, x.reason(true, false));
        Check.is(9, x.reason(true, true));
        CanalMaps y = three();
        Check.isThrown(Edge.REFUSED, () -> y.close(Integer.MIN_VALUE, 0));
        Check.is(3, y.reason(false, false));
        Check.is(Integer.MIN_VALUE, y.reason(false, true));
        Check.isThrown(Edge.REFUSED, () -> y.canal(0, Integer.MAX_VALUE, 0));
        Check.is(Integer.MAX_VALUE, y.reason(false, true));
        Check.isThrown(Edge.REFUSED, () -> y.canal(0, 1, 4));
        Check.is(5, y.reason(false, false));
        Check.is(0, y.reason(false, true));
    }

    @Sentence(of = 28, value = "Throws `NoSuchElementException` if nothing was refused, or there is no cause")
    static void noReasonAndNoCause() {
        for (int which = 0; which < 4; which++) {
            boolean isCause = which % 2 == 1;
            boolean isDetail = which >= 2;
            Edge.isThrown(Edge.NONE, CanalMaps::new, x -> x.reason(isCause, isDetail));
            Edge.isThrown(Edge.NONE, TextEdges::three, x -> x.reason(isCause, isDetail));
            // a faulty text and another exception refuse nothing
            CanalMaps x = with(three(), "q");
            Check.isThrown(Edge.BAD, x::commands);
            Check.isThrown(Edge.NO_INDEX, () -> x.line(3));
            Check.isThrown(Edge.BAD_STATE, x::restore);
            Check.isThrown(Edge.NONE, () -> x.reason(isCause, isDetail));
        }
        CanalMaps x = three();
        Runnable[] calls = {() -> x.pass(0), () -> x.close(3, 3), () -> x.close(1, 1), () -> x.canal(0, 1, 4),
            () -> x.close(0, 2)};
        for (Runnable call : calls) {
            Check.isThrown(Edge.REFUSED, call);
            Check.isTrue(x.reason(false, false) > 0 && x.reason(false, true) >= 0, "no reason");
            Check.isThrown(Edge.NONE, () -> x.reason(true, false));
            Check.isThrown(Edge.NONE, () -> x.reason(true, true));
        }
    }

    // Promise 29

    @Sentence(of = 29, value = {"Writes the map of a surveyor, in place of the line before: for each page in it, by",
            "Returns the length of the line."})
    static void lines() {
        CanalMaps x = Surveys.of(3);
        Check.is("0:1", Surveys.line(x, 0));
        x.canal(0, 1, 5);
        x.canal(0, 2, 9);
        Surveys.loseUntil(x, 1);
        Check.is("2>0:2.2", Surveys.letters(x));
        x.pass(1);
        Check.is("0:3,1=5,2=9 2:2,0=9", Surveys.line(x, 0));
        CanalMaps y = Surveys.of(3);
        y.canal(0, 1, 5);
        y.pass(1);
        y.canal(0, 2, 9);
        Surveys.loseUntil(y, 0);
        Check.is("0:3,1=5,2=9 1:2,0=5", Surveys.line(y, 0));
        Check.is(19, y.line(0));
        // in place of the line before, whether that was longer or shorter
        Check.is(7, y.line(2));
        Check.is("2:2,0=9", Surveys.written(y));
        Check.is(15, y.line(1));
        Check.is("0:2,1=5 1:2,0=5", Surveys.written(y));
        // the longest one
        CanalMaps z = Surveys.mesh(6);
        for (int turn = 0; turn < 10; turn++) {
            z.district(turn % 6, 1);
            z.district(turn % 6, 0);
        }
        Surveys.settle(z);
        Check.is(6 * 24 + 5, z.line(3));
        Check.is("0:26,1=1,2=1,3=1,4=1,5=1 1:26,0=1", Surveys.written(z).substring(0, 33));
    }

    @Sentence(of = 29, value = "Throws `IndexOutOfBoundsException` if there is no such surveyor")
    static void linesOfSurveyorsOutside() {
        for (int bad : Edge.outside(0, 2)) {
            Edge.isThrown(Edge.NO_INDEX, TextEdges::withLine, x -> x.line(bad));
        }
        Edge.isThrown(Edge.NO_INDEX, CanalMaps::new, x -> x.line(0));
        Edge.isThrown(Edge.NO_INDEX, () -> Surveys.of(6), x -> x.line(6));
        Edge.is(3, () -> Surveys.of(6), x -> x.line(5));
    }

    private static CanalMaps withLine() {
        CanalMaps x = three();
        Check.is(7, x.line(1));
        return x;
    }

    // Promise 30

    @Sentence(of = 30, value = {"Returns a character of the line, which is empty at first.", "- `index`: the index, from 0",
            "Returns the character."})
    static void charactersOfTheLine() {
        Edge.isThrown(Edge.NO_INDEX, CanalMaps::new, x -> x.character(0));
        Edge.isThrown(Edge.NO_INDEX, TextEdges::three, x -> x.character(0));
        String due = "1:2,0=4";
        for (int index = 0; index < 7; index++) {
            int asked = index;
            Edge.is(due.charAt(index), TextEdges::withLine, x -> x.character(asked));
        }
        // the line stays as it was written, whatever changes
        CanalMaps x = withLine();
        x.canal(0, 1, 9);
        x.pass(50);
        x.save();
        x.undo();
        x.restore();
        Surveys.type(x, "+");
        x.commands();
        Check.is(due, Surveys.written(x));
    }

    @Sentence(of = 30, value = "Throws `IndexOutOfBoundsException` if there is no such index")
    static void charactersOutside() {
        for (int bad : Edge.outside(0, 6)) {
            Edge.isThrown(Edge.NO_INDEX, TextEdges::withLine, x -> x.character(bad));
        }
        for (int bad : Edge.outside(0, -1)) {
            Edge.isThrown(Edge.NO_INDEX, CanalMaps::new, x -> x.character(bad));
        }
        // a shorter line has no index of the longer one before
        CanalMaps x = withLine();
        Check.is(3, x.line(2));
        Check.is('1', x.character(2));
        Check.isThrown(Edge.NO_INDEX, () -> x.character(3));
        Check.isThrown(Edge.NO_INDEX, () -> x.character(6));
    }
}
