/** Promises 1 to 6: the new object, the buffer, and what load leaves behind. */
final class BufferBoundaries {
    private static final int BLANKS = 0x20202020;
    private static final String SMALL = "reach 9 2;accounts 2;right 1 0 5 5;";

    private final Boundary b;

    BufferBoundaries(Boundary b) {
        this.b = b;
    }

    void all() {
        newObject();
        bytesOfAppend();
        fullBuffer();
        textsOfGreatestLength();
        truncated();
        truncatedAndFilledAgain();
        emptyAfterLoad();
        everythingReplaced();
        formattedTextStays();
        numberOfRights();
        refusedLoad();
        errorOffset();
        errorKind();
    }

    private static int blanks(WaterExchange x) {
        return x.append(BLANKS, BLANKS, BLANKS, BLANKS, BLANKS);
    }

    private static WaterExchange withBlanks(int appends) {
        WaterExchange x = new WaterExchange();
        for (int i = 0; i < appends; i++) {
            blanks(x);
        }
        return x;
    }

    private static void refuseText(WaterExchange x, String text) {
        Use.put(x, text);
        try {
            x.load();
            throw new IllegalStateException("the text is correct: " + text);
        } catch (IllegalArgumentException e) {
            return;
        }
    }

    // ---- promise 1

    private void newObject() {
        b.promise(1, "Creates an exchange as an empty text describes it (without reaches and rights), with an empty buffer.");
        WaterExchange x = new WaterExchange();
        int[] counts = {0, 1, 0, 0, 0, 0, 0, 1};
        for (int what = 0; what < counts.length; what++) {
            b.same("count " + what, x.count(what), counts[what]);
        }
        b.noNumber("no reach 0", () -> x.reach(0, 0));
        b.noNumber("no account 1", () -> x.balance(1));
        b.noNumber("no right 0", () -> x.right(0, 0));
        b.noNumber("no lease 0", () -> x.endLease(0));
        b.noNumber("no option 0", () -> x.optionField(0, 0));
        for (int month = 0; month < 12; month++) {
            b.same("season " + month, x.season(month), 100);
        }
        b.same("years", x.yearPercent(0) * 1000 + x.yearPercent(1), 100100);
        b.fails("not even one byte in the buffer", x.truncate(1));
        b.noState("slot 0", () -> x.restore(0));
        b.noState("slot 1", () -> x.restore(1));
        b.same("its buffer is the empty text", x.load(), 0);
        b.same("as an empty text", Use.allOf(new WaterExchange()), Use.allOf(x));
        WaterExchange y = new WaterExchange();
        b.same("20 bytes are the first ones", blanks(y), 20);
    }

    // ---- promise 2

    private void bytesOfAppend() {
        b.promise(2, "Appends 20 bytes to the input buffer: the four bytes of each parameter in turn, "
                + "the most significant byte first.");
        for (int place = 0; place < 20; place++) {
            for (int strange : new int[] {'x', 0, 127, 128, 255}) {
                int[] words = {BLANKS, BLANKS, BLANKS, BLANKS, BLANKS};
                int shift = 24 - place % 4 * 8;
                words[place / 4] = BLANKS & ~(255 << shift) | strange << shift;
                WaterExchange x = new WaterExchange();
                x.append(words[0], words[1], words[2], words[3], words[4]);
                b.noArgument("a strange byte", x::load);
                b.same("byte " + strange + " stands at " + place, x.errorOffset(), place);
            }
        }
    }

    private void fullBuffer() {
        b.promise(2, "Returns the new length of the buffer; NONE, and nothing is appended, "
                + "if the buffer would exceed 900 bytes.");
        WaterExchange x = new WaterExchange();
        for (int length = 20; length <= 900; length += 20) {
            b.same("new length", blanks(x), length);
        }
        b.same("a full buffer", x.append(-1, -1, -1, -1, -1), -1);
        b.same("a full buffer, again", x.append(-1, -1, -1, -1, -1), -1);
        b.fails("not longer than before", x.truncate(901));
        b.holds("as long as before", x.truncate(900));
        b.same("only blanks in it", x.load(), 0);
        for (int length = 880; length <= 900; length++) {
            WaterExchange y = withBlanks(45);
            y.truncate(length);
            int due = length == 880 ? 900 : -1;
            b.same(length + " bytes and 20", y.append(BLANKS, BLANKS, BLANKS, BLANKS, BLANKS), due);
            int now = Math.max(due, length);
            b.fails(length + " bytes: none of the 20 is there", y.truncate(now + 1));
            b.holds(length + " bytes: they are still there", y.truncate(now));
            b.same(length + " bytes: still a correct text", y.load(), 0);
        }
        WaterExchange z = withBlanks(45);
        z.append(0, 0, 0, 0, 0);
        z.truncate(0);
        b.same("room again behind truncate", blanks(z), 20);
        z = withBlanks(45);
        z.load();
        b.same("room again behind load", blanks(z), 20);
    }

    private void textsOfGreatestLength() {
        b.terms("The text has at most 900 bytes.");
        String text = "loss 7;".repeat(127) + "loss 50    ;";
        b.same("901 bytes cannot be put", text.length(), 901);
        WaterExchange x = new WaterExchange();
        Use.put(x, text.replace("  ;", " ;"));
        b.same("a text of 900 bytes", x.load(), 0);
        b.same("its last line counts", x.count(6), 50);
        Use.put(x, text.replace("  ;", "  "));
        b.noArgument("900 bytes without the last one", x::load);
        b.same("the end of the text", x.errorOffset(), 900);
        String[] last = {"x".repeat(900), " ".repeat(899) + "x", " ".repeat(899) + "9", " ".repeat(899) + ";",
            " ".repeat(896) + "loss", "loss " + "9".repeat(895), "loss " + " ".repeat(892) + "999"};
        int[] offsets = {0, 899, 899, 899, 900, 5, 897};
        for (int i = 0; i < last.length; i++) {
            WaterExchange y = new WaterExchange();
            Use.put(y, last[i]);
            b.noArgument("no more than 900 bytes are read", y::load);
            b.same("no more than 900 bytes are read", y.errorOffset(), offsets[i]);
        }
        Use.put(x, text.replace("50    ;", "51   ;"));
        b.noArgument("a wrong number near the end", x::load);
        b.same("its offset", x.errorOffset(), 894);
    }

    // ---- promise 3

    private void truncated() {
        b.promise(3, "Returns true if the length was 0 to the current length; false, and nothing changes, otherwise.");
        WaterExchange x = new WaterExchange();
        b.holds("0 of 0", x.truncate(0));
        b.fails("1 of 0", x.truncate(1));
        b.fails("-1 of 0", x.truncate(-1));
        Use.put(x, "loss 5;loss 6;loss 7;   ");
        int[] refused = {-1, 25, 26, 900, 901, Integer.MIN_VALUE, Integer.MAX_VALUE};
        for (int length : refused) {
            b.fails(length + " of 24", x.truncate(length));
        }
        b.holds("24 of 24, nothing has changed", x.truncate(24));
        b.holds("21 of 24", x.truncate(21));
        b.fails("22 of 21", x.truncate(22));
        b.holds("14 of 21", x.truncate(14));
        x.load();
        b.same("the first bytes are left", x.count(6), 6);
        Use.put(x, "loss 8;");
        b.fails("8 of 7", x.truncate(8));
        b.fails("-1 of 7", x.truncate(-1));
        x.load();
        b.same("a false one changes nothing", x.count(6), 8);
        Use.put(x, "loss 9;");
        b.holds("0 of 7", x.truncate(0));
        b.fails("1 of 0 again", x.truncate(1));
        x.load();
        b.same("nothing is left", x.count(6), 0);
    }

    private void truncatedAndFilledAgain() {
        b.promise(3, "Shortens the input buffer to its first bytes.");
        WaterExchange x = new WaterExchange();
        Use.put(x, "loss 5;x");
        x.truncate(7);
        b.same("20 bytes stand behind the first 7", blanks(x), 27);
        b.same("the byte that was cut off is gone", x.load(), 0);
        b.same("the first ones stay", x.count(6), 5);
        Use.put(x, "loss 34;");
        x.truncate(6);
        b.same("in the middle of a number", x.append(0x3b202020, BLANKS, BLANKS, BLANKS, BLANKS), 26);
        x.load();
        b.same("its first digit stays", x.count(6), 3);
        String[] cutOff = {"loss 3|4;", "loss |3;", "loss 34|;", "los|s 3;", "loss 3;|x", "loss 3;loss|es 4;", "loss 3;loss|5;"};
        int[] offsets = {6, 5, 7, 0, -1, 11, 11};
        for (int i = 0; i < cutOff.length; i++) {
            WaterExchange y = new WaterExchange();
            Use.put(y, cutOff[i].replace("|", ""));
            y.truncate(cutOff[i].indexOf('|'));
            if (offsets[i] < 0) {
                b.same(cutOff[i], y.load(), 0);
            } else {
                b.noArgument(cutOff[i], y::load);
            }
            b.same(cutOff[i], y.errorOffset(), offsets[i]);
        }
    }

    // ---- promise 4

    private void emptyAfterLoad() {
        b.promise(4, "The buffer is empty afterwards, also on an error.");
        WaterExchange x = new WaterExchange();
        Use.put(x, SMALL);
        x.load();
        b.fails("not even one byte", x.truncate(1));
        b.same("the next bytes are the first ones", blanks(x), 20);
        refuseText(x, SMALL + "x");
        b.fails("not even one byte on an error", x.truncate(1));
        b.same("the next bytes are the first ones on an error", blanks(x), 20);
        x.truncate(0);
        b.same("the empty text is loaded", x.load(), 0);
    }

    private void everythingReplaced() {
        b.promise(4, "Parses the input buffer as a text and replaces everything by it; the time is 0, "
                + "nothing was claimed yet, and no action can be undone.");
        String full = "reach 99 1;".repeat(6) + "season 1 2 3 4 5 6 7 8 9 10 11 12;years 5 4 3 2 1;loss 50;accounts 5;"
                + "right 4 0 3 9;right 4 0 4 9 returns 90 5 keeps 99;" + "lease 0 0 0 1 1 9;".repeat(8)
                + "option 0 0 0 200 9 9;";
        for (String next : new String[] {"", SMALL}) {
            WaterExchange x = Use.of(full);
            x.transfer(0, 0, 9999);
            x.setKeep(0, 100);
            x.run(30);
            Use.put(x, next);
            x.load();
            b.same("the time", x.count(5), 0);
            b.same("no claims", x.claims(), 0);
            b.same("no month in the history", x.history(0, 0), -1);
            b.same("no undo", x.undoDepth(), 0);
            b.same("undo refuses", x.undo(), -1);
            b.same("everything", Use.allOf(x), Use.allOf(Use.of(next)));
            for (int month = 0; month < 12; month++) {
                b.same("season " + month, x.season(month), 100);
            }
            b.same("years", x.yearPercent(0) * 1000 + x.yearPercent(4), 100100);
        }
    }

    private void formattedTextStays() {
        b.promise(4, "The formatted text stays.");
        WaterExchange x = Use.of("reach 50 0;right 0 0 1 20;");
        x.run(1);
        x.formatClaims();
        Use.put(x, "");
        x.load();
        b.same("behind a load", Use.formatted(x, 8), "r0:20/20");
        b.same("its end", x.formattedByte(8), -1);
        refuseText(x, "x");
        b.same("behind a refused load", Use.formatted(x, 8), "r0:20/20");
        b.same("its end", x.formattedByte(8), -1);
    }

    private void numberOfRights() {
        b.promise(4, "Returns the number of rights.");
        StringBuilder text = new StringBuilder("reach 1 1;reach 1 1;");
        for (int rights = 0; rights <= 10; rights++) {
            WaterExchange x = new WaterExchange();
            Use.put(x, text.toString());
            b.same(rights + " rights", x.load(), rights);
            text.append("right 0 0 ").append(99 - rights).append(" 1;");
        }
    }

    private void refusedLoad() {
        b.promise(4, "Throws IllegalArgumentException if the text does not match; everything else stays as it is.");
        WaterExchange x = Use.of(SMALL);
        x.setKeep(0, 100);
        x.run(2);
        x.release(1, 0, 3);
        x.save(1);
        String before = Use.allOf(x).replace("errors -1 0", "errors 79 1");
        Use.put(x, "reach 8 8;reach 8 8;season 1 2;years 3 4;loss 9;accounts 1;right 0 1 7 7;right x");
        b.noArgument("wrong at its last word", x::load);
        b.same("everything else", Use.allOf(x), before);
        b.same("the season", x.season(0), 100);
        b.same("the years", x.yearPercent(0), 100);
        b.same("the slot", x.restore(1), 2);
    }

    // ---- promises 5 and 6

    private void errorOffset() {
        b.promise(5, "Returns the error offset of the latest call of load; NONE if that call succeeded "
                + "or if there was none.");
        WaterExchange x = new WaterExchange();
        b.same("there was none", x.errorOffset(), -1);
        refuseText(x, "x");
        b.same("0 is an offset", x.errorOffset(), 0);
        refuseText(x, "  x");
        b.same("the latest", x.errorOffset(), 2);
        x.truncate(0);
        x.append(0, 0, 0, 0, 0);
        b.same("as long as there is no new one", x.errorOffset(), 2);
        x.truncate(0);
        x.load();
        b.same("that call succeeded", x.errorOffset(), -1);
        Use.put(x, SMALL);
        x.load();
        x.save(0);
        refuseText(x, "loss x");
        x.setKeep(0, 1);
        x.undo();
        x.restore(0);
        b.same("neither undo nor restore brings an older one back", x.errorOffset(), 5);
    }

    private void errorKind() {
        b.promise(6, "Returns the kind of error of the latest call of load; 0 if that call succeeded "
                + "or if there was none.");
        WaterExchange x = new WaterExchange();
        b.same("there was none", x.errorKind(), 0);
        refuseText(x, "loss 51");
        b.same("BAD_NUMBER", x.errorKind(), 2);
        refuseText(x, "x");
        b.same("SYNTAX, the latest", x.errorKind(), 1);
        refuseText(x, SMALL + "right 1 0 5");
        b.same("TWICE", x.errorKind(), 3);
        refuseText(x, "years 1 2 3 4 5 6");
        b.same("TOO_MANY", x.errorKind(), 4);
        x.load();
        b.same("that call succeeded", x.errorKind(), 0);
    }
}
