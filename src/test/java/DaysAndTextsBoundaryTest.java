/** Promises 8 to 15, a test for each sentence of them that names a boundary: too small, too large, none, all. */
public final class DaysAndTextsBoundaryTest extends Checks {
    // ---- Promise 8

    private static void holdTellsWhetherItChanges() {
        about("8: Returns 1 if it changes whether the person eats it, otherwise 0");
        SaltShares x = withBread(0, true, 1);
        due("in, who does not eat it", x.hold(106, 0, true), 1);
        due("in, who is held in", x.hold(106, 0, true), 0);
        due("out, who is held in", x.hold(106, 0, false), 1);
        due("out, who is held out", x.hold(106, 0, false), 0);
        due("in, who is held out", x.hold(106, 0, true), 1);
        due("in, who eats it by the bucket", x.hold(0, 0, true), 0);
        due("out, who is held in and owns the bucket", x.hold(0, 0, false), 1);
        due("out, who does not eat it", x.hold(149, 0, false), 0);
        due("out, who eats it by the bucket", x.hold(1, 0, false), 1);
        x.pass(1);
        x.hold(106, 0, false);
        x.letGo(106, 0);
        due("in, who eats it as it is sticky", x.hold(106, 0, true), 0);
        x.letGo(106, 0);
        due("out, who eats it as it is sticky", x.hold(106, 0, false), 1);
        due("holds", x.count(7), 4);
    }

    private static void holdRefuses() {
        about("8: no such person or bread; the bread has ended");
        refusesNoBreads("hold in", (x, bread) -> x.hold(0, bread, true));
        refusesNoBreads("hold out", (x, bread) -> x.hold(149, bread, false));
        refusesNoBreads("hold of nobody", (x, bread) -> x.hold(150, bread, false));
        refusesFarPersons("hold in", (x, person) -> x.hold(person, 0, true));
        refusesFarPersons("hold out for an ended one", (x, person) -> x.hold(person, 4, false));
        refused(Checks::busyTown, "hold in for an ended one", STATE, x -> x.hold(0, 4, true));
        refused(Checks::busyTown, "hold out for an ended one", STATE, x -> x.hold(0, 4, false));
        refused(Checks::busyTown, "hold in again for an ended one", STATE, x -> x.hold(149, 4, true));
        undoable(Checks::busyTown, "hold of the first person", 1, x -> x.hold(0, 0, true));
        undoable(Checks::busyTown, "hold of the last person", 1, x -> x.hold(149, 1, true));
    }

    // ---- Promise 9

    private static void letGoTellsWhetherItChanges() {
        about("9: Returns 1 if it changes whether the person eats it, otherwise 0");
        SaltShares x = withBread(0, true, 1);
        x.hold(0, 0, true);
        x.hold(1, 0, false);
        x.hold(106, 0, true);
        x.hold(149, 0, false);
        due("held in, by the bucket too", x.letGo(0, 0), 0);
        due("held out, whose bucket it owns", x.letGo(1, 0), 1);
        due("held in, whose bucket it does not own", x.letGo(106, 0), 1);
        due("held out, whose bucket it does not own", x.letGo(149, 0), 0);
        due("holds", x.count(7), 0);
        x.hold(106, 0, true);
        x.hold(149, 0, true);
        x.pass(1);
        x.hold(149, 0, false);
        due("held in, who ate it", x.letGo(106, 0), 0);
        due("held out, who ate it", x.letGo(149, 0), 1);
        due("why", x.eats(149, 0), 2);
    }

    private static void letGoOfAnEndedOne() {
        about("9: Holds a person no longer for a bread (also for one that has ended)");
        SaltShares x = busyTown();
        due("held in", x.letGo(149, 4), 0);
        due("held out", x.letGo(148, 4), 0);
        due("holds for it", x.bread(4, 8) + x.bread(4, 9), 0);
        due("holds", x.count(7), 2);
        fails(x, "let go again", STATE, () -> x.letGo(149, 4));
    }

    private static void letGoRefuses() {
        about("9: no such person or bread; the person is not held for it");
        refusesNoBreads("letGo", (x, bread) -> x.letGo(5, bread));
        refusesFarPersons("letGo", (x, person) -> x.letGo(person, 0));
        refused(Checks::busyTown, "letGo of one who is held for another", STATE, x -> x.letGo(149, 0));
        refused(Checks::busyTown, "letGo of the next person", STATE, x -> x.letGo(7, 0));
        refused(Checks::busyTown, "letGo of one who is not held for an ended one", STATE, x -> x.letGo(5, 4));
        refused(Checks::town, "letGo without holds", STATE, x -> x.letGo(0, 0));
        undoable(Checks::busyTown, "letGo of one held in", 1, x -> x.letGo(5, 0));
        undoable(Checks::busyTown, "letGo of one held out", 1, x -> x.letGo(6, 0));
    }

    // ---- Promise 10

    private static void passDays() {
        about("10: days are 1 to 50");
        for (int days : new int[] {MIN, -50, -1, 0, 51, 52, 100, MAX}) {
            refused(Checks::busyTown, "pass(" + days + ")", ARGUMENT, x -> x.pass(days));
            refused(SaltShares::new, "pass(" + days + ")", ARGUMENT, x -> x.pass(days));
        }
        SaltShares x = withBread(0, false, 100);
        due("the least", x.pass(1), 150);
        due("day", x.count(2), 1);
        due("the most", x.pass(50), 50 * 150);
        due("day", x.count(2), 51);
    }

    private static void passTellsHowManyServings() {
        about("10: Returns how many servings there are in them");
        due("without breads", new SaltShares().pass(50), 0);
        due("without eaters", town().pass(50), 0);
        SaltShares x = new SaltShares();
        for (int bread = 0; bread < 8; bread++) {
            x.open(-1, bread, bread < 4);
            x.raise(bread, 100);
        }
        due("all persons and all breads", x.pass(50), 50 * 8 * 150);
        due("again: only those in them", x.pass(1), 8 * 150);
        due("so far", x.count(3), 51 * 8 * 150);
        due("of a person", x.person(149, 4), 51 * 8);
        due("what a person ate", x.person(149, 1), 255);
        for (int bread = 0; bread < 7; bread++) {
            x.end(bread);
        }
        due("those that ended are served no more", x.pass(1), 150);
        due("servings of an ended one", x.bread(0, 7), 51 * 150);
    }

    private static void passIsUndoneAsOne() {
        about("10: Undoable, as one call");
        SaltShares x = withBread(0, true, 10);
        x.pass(50);
        due("saved", x.count(8), 3);
        x.raise(0, 100);
        due("undo of the raise", x.undo(), 3);
        due("undo of the days", x.undo(), 2);
        due("day", x.count(2), 0);
        due("who ate it", x.bread(0, 6), 0);
        x.lower(0, 0);
        due("nobody stays with it", x.bread(0, 5), 0);
    }

    // ---- Promise 11

    private static void appendACode() {
        about("11: the character code, 33 to 126");
        for (int code : new int[] {MIN, -33, -1, 0, 10, 32, 127, 128, 255, 256 + 'd', 65536 + 'd', MAX}) {
            refused(SaltShares::new, "append(" + code + ")", ARGUMENT, x -> x.append(code));
            refused(Checks::busyTown, "append(" + code + ")", ARGUMENT, x -> x.append(code));
        }
        SaltShares x = new SaltShares();
        for (int code = 33; code <= 126; code++) {
            long before = x.digest();
            due("append(" + code + ")", x.append(code), 1);
            due("digest", x.digest(), 31 * (before + 1) + code);
            due("clearBuffer", x.clearBuffer(), 1);
        }
    }

    private static void appendToAFullBuffer() {
        about("11: Throws IllegalStateException if the buffer has 60 characters");
        Maker full = () -> {
            SaltShares x = busyTown();
            for (int length = 5; length <= 60; length++) {
                due("append", x.append('a' + length % 26), length);
            }
            return x;
        };
        refused(full, "append of 33", STATE, x -> x.append(33));
        refused(full, "append of 126", STATE, x -> x.append(126));
        refused(full, "append of 32", ARGUMENT, x -> x.append(32));
        refused(full, "append of 127", ARGUMENT, x -> x.append(127));
        SaltShares x = full.make();
        due("not undoable", x.count(8), 6);
        x.undo();
        due("its length after undo", x.clearBuffer(), 60);
        due("append then", x.append('~'), 1);
    }

    // ---- Promise 12

    private static void clearTheBuffer() {
        about("12: Clears the buffer; returns the length that it had");
        SaltShares x = busyTown();
        long without = 0;
        for (int length = 0; length <= 60; length++) {
            x.clearBuffer();
            due("the length of an empty one", x.clearBuffer(), 0);
            without = length == 0 ? x.digest() : without;
            due("digest", x.digest(), without);
            for (int i = 0; i < length; i++) {
                x.append('d');
            }
            due("clearBuffer", x.clearBuffer(), length);
            due("firstError", x.firstError(), 0);
        }
        due("not undoable", x.count(8), 6);
    }

    // ---- Promise 13

    private static void firstErrorOf(String text, int index) {
        onlyTells(() -> {
            SaltShares x = busyTown();
            x.clearBuffer();
            type(x, text);
            return x;
        }, "firstError of " + text, index, SaltShares::firstError);
    }

    private static void firstErrorIsTold() {
        about("13: the index of the first character that is a syntax error; the length of the buffer if there is none");
        StringBuilder full = new StringBuilder("d5");
        while (full.length() < 59) {
            full.append(";x0");
        }
        firstErrorOf("", 0);
        firstErrorOf("!", 0);
        firstErrorOf("x", 1);
        firstErrorOf("x!", 1);
        firstErrorOf("x0", 2);
        firstErrorOf("x0!", 2);
        firstErrorOf("x0!!x8", 2);
        firstErrorOf(full.toString(), 59);
        firstErrorOf(full + ";", 60);
        firstErrorOf(full + "!", 59);
        firstErrorOf(full + "0", 59);
        firstErrorOf(full.substring(0, 58) + "8", 58);
        firstErrorOf(full.substring(0, 58) + "8!", 58);
    }

    private static void firstErrorKnowsNoTown() {
        about("13: a syntax error, whatever there is in the town");
        SaltShares x = new SaltShares();
        type(x, "+7=100;-7=0;i149@7;x7");
        due("of breads that there are not", x.firstError(), 21);
        due("run", x.run(), 0);
        due("of the cleared buffer", x.firstError(), 0);
    }

    // ---- Promise 14

    private static void runRefuses() {
        about("14: Throws IllegalArgumentException if the buffer is not a complete row of commands");
        for (String text : new String[] {"", ";", "d", "d1;", "d1;;d1", "+", "+0", "+0=", "-0=101", "i", "i0", "i0@",
            "i150@0", "o149", "x", "x8", "d0", "d51", "d1!", "D1", "d1;y"}) {
            refused(() -> {
                SaltShares x = busyTown();
                x.clearBuffer();
                type(x, text);
                return x;
            }, "run of " + text, ARGUMENT, SaltShares::run);
        }
    }

    /** Runs the text in a busy town; so many commands are carried out, and so many days have passed then. */
    private static void runs(String text, int carriedOut, int day) {
        Maker maker = () -> {
            SaltShares x = busyTown();
            x.clearBuffer();
            type(x, text);
            return x;
        };
        SaltShares x = maker.make();
        due("run of " + text, x.run(), carriedOut);
        due("day after " + text, x.count(2), day);
        due("the buffer is cleared by " + text, x.clearBuffer(), 0);
        undoable(maker, "run of " + text, carriedOut, SaltShares::run);
    }

    private static void runUpToTheFirstThatThrows() {
        about("14: Carries out the commands, one after the other, up to the first one whose method would throw");
        runs("d1", 1, 4);
        runs("d1;d50;d2", 3, 56);
        runs("x4;d1", 0, 3);
        runs("d1;x4;d1", 1, 4);
        runs("d1;x3;x3;d1", 2, 4);
        runs("d1;d1;x7", 2, 5);
    }

    private static void runOfSharesThatCannotBe() {
        about("14: raise and lower would throw: no such bread, ended, share greater or less, not so many buckets left");
        runs("+5=0;d1", 0, 3);
        runs("-5=0;d1", 0, 3);
        runs("+4=0;d1", 0, 3);
        runs("-4=0;d1", 0, 3);
        runs("+3=9;d1", 0, 3);
        runs("+3=10;d1", 2, 4);
        runs("-3=11;d1", 0, 3);
        runs("-3=10;d1", 2, 4);
        runs("+0=24;d1", 0, 3);
        runs("+0=71;d1", 0, 3);
        runs("+0=70;d1", 2, 4);
        runs("+0=70;+1=31;d1", 1, 3);
        runs("+0=70;-0=69;+1=31;d1", 4, 4);
        runs("+3=100;+2=100;d1", 3, 4);
        runs("x0;+1=100;d1", 3, 4);
        runs("x0;+0=0;d1", 1, 3);
    }

    private static void runOfHoldsThatCannotBe() {
        about("14: hold and end would throw: no such bread, or ended");
        runs("i0@5;d1", 0, 3);
        runs("o0@5;d1", 0, 3);
        runs("i149@4;d1", 0, 3);
        runs("o149@4;d1", 0, 3);
        runs("x5;d1", 0, 3);
        runs("x7;d1", 0, 3);
        runs("i5@0;i5@0;d1", 3, 4);
        runs("i149@3;o149@3;x3;i149@3;d1", 3, 3);
    }

    /** The command is not carried out, and what comes after it is not either. */
    private static void stopsAt(String command) {
        SaltShares x = busyTown();
        x.clearBuffer();
        due("run of " + command, ran(x, "d2;" + command + ";d1;x3"), 1);
        SaltShares y = busyTown();
        y.pass(2);
        due("what is told after d2 and " + command, toldBy(x), toldBy(y));
        due("digest after d2 and " + command, x.digest(), digestWithoutBuffer(y));
    }

    private static long digestWithoutBuffer(SaltShares x) {
        x.clearBuffer();
        return x.digest();
    }

    private static void theOneThatWouldThrowChangesNothing() {
        about("14: up to the first one whose method would throw an exception");
        String[] commands = {"+5=0", "+5=1", "+7=100", "-5=0", "-7=100", "+4=0", "+4=100", "-4=0", "-4=100", "+3=9",
            "+3=0", "-3=11", "-3=100", "+0=24", "+1=0", "-0=26", "-1=100", "+0=71", "+0=100", "+1=76", "i0@5", "i149@7",
            "o0@5", "o149@7", "i0@4", "o0@4", "i149@4", "o149@4", "i148@4", "x4", "x5", "x7"};
        for (String command : commands) {
            stopsAt(command);
        }
    }

    private static void runDoesWhatTheCallsDo() {
        about("14: Carries out the commands in the buffer");
        SaltShares x = town();
        due("run", ran(x, "+0=100;-0=1;i149@0;o0@1;x2;d50"), 6);
        SaltShares y = town();
        y.raise(0, 100);
        y.lower(0, 1);
        y.hold(149, 0, true);
        y.hold(0, 1, false);
        y.end(2);
        y.pass(50);
        y.undo();
        x.pass(1);
        y.pass(50);
        y.pass(1);
        due("saved as one", x.count(8), 6);
        for (int what = 0; what <= 7; what++) {
            due("count(" + what + ")", x.count(what), y.count(what));
        }
        for (int bread = 0; bread < 4; bread++) {
            for (int what = 0; what <= 11; what++) {
                due("bread(" + bread + ", " + what + ")", x.bread(bread, what), y.bread(bread, what));
            }
        }
        for (int person = 0; person < 150; person++) {
            for (int what = 0; what <= 4; what++) {
                due("person(" + person + ", " + what + ")", x.person(person, what), y.person(person, what));
            }
        }
    }

    private static void runOfAFullBuffer() {
        about("14: Returns how many commands are carried out");
        SaltShares x = withBread(0, false, 100);
        StringBuilder full = new StringBuilder("d10");
        for (int i = 0; i < 19; i++) {
            full.append(";d1");
        }
        due("length", full.length(), 60);
        due("of a full buffer", ran(x, full.toString()), 20);
        due("day", x.count(2), 29);
        due("servings", x.count(3), 29 * 150);
        due("saved as one", x.count(8), 3);
        due("undone as one", x.undo(), 2);
        due("day", x.count(2), 0);
    }

    // ---- Promise 15

    private static void undoTheLatest() {
        about("15: Restores the latest saved state, and drops it; throws IllegalStateException if there is none");
        refused(SaltShares::new, "undo of a new object", STATE, SaltShares::undo);
        SaltShares x = new SaltShares();
        x.pass(1);
        x.pass(2);
        due("undo", x.undo(), 1);
        due("day", x.count(2), 1);
        due("undo", x.undo(), 0);
        due("day", x.count(2), 0);
        fails(x, "undo when none is left", STATE, x::undo);
        x.pass(3);
        due("undo is not saved itself", x.undo(), 0);
        due("day", x.count(2), 0);
        refused(() -> {
            SaltShares y = new SaltShares();
            y.append('d');
            y.clearBuffer();
            y.firstError();
            y.digest();
            return y;
        }, "undo when only what is not undoable was done", STATE, SaltShares::undo);
    }

    private static void undoOfSix() {
        about("15: Returns how many saved states are left");
        for (int many = 1; many <= 8; many++) {
            SaltShares x = new SaltShares();
            for (int bread = 0; bread < many; bread++) {
                x.open(bread % 3, bread, true);
            }
            int saved = Math.min(many, 6);
            for (int left = saved - 1; left >= 0; left--) {
                due("undo", x.undo(), left);
                due("breads", x.count(0), many - saved + left);
            }
            fails(x, "undo once more", STATE, x::undo);
        }
    }

    public static void main(String[] args) {
        holdTellsWhetherItChanges();
        holdRefuses();
        letGoTellsWhetherItChanges();
        letGoOfAnEndedOne();
        letGoRefuses();
        passDays();
        passTellsHowManyServings();
        passIsUndoneAsOne();
        appendACode();
        appendToAFullBuffer();
        clearTheBuffer();
        firstErrorIsTold();
        firstErrorKnowsNoTown();
        runRefuses();
        runUpToTheFirstThatThrows();
        runOfSharesThatCannotBe();
        runOfHoldsThatCannotBe();
        theOneThatWouldThrowChangesNothing();
        runDoesWhatTheCallsDo();
        runOfAFullBuffer();
        undoTheLatest();
        undoOfSix();
        close("DaysAndTextsBoundaryTest");
    }
}
