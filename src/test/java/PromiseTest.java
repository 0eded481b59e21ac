/** Runs for each promise of the document: ordinary inputs, the edges that it names, wrong inputs. */
public final class PromiseTest extends Checks {
    /** The call saves one state, and undo brings everything back. */
    private static void undoable(SaltShares x, int ofPromise, Call call) {
        about("promise " + ofPromise);
        long before = x.digest();
        int saved = x.count(8);
        call.get();
        due("saved states after it", x.count(8), saved + 1);
        due("undo", x.undo(), saved);
        due("digest after undo", x.digest(), before);
    }

    private static void undoableOnes() {
        SaltShares x = town();
        undoable(x, 2, () -> x.open(2, 5, true));
        undoable(x, 3, () -> x.end(0));
        undoable(x, 4, () -> x.raise(0, 77));
        undoable(x, 4, () -> x.raise(3, 0));
        undoable(x, 6, () -> x.resalt(3, 5));
        undoable(x, 6, () -> x.resalt(3, 42));
        undoable(x, 7, () -> x.shake(1, 5));
        undoable(x, 7, () -> x.shake(1, 22));
        undoable(x, 8, () -> x.hold(149, 3, true));
        undoable(x, 8, () -> x.hold(0, 3, false));
        undoable(x, 14, () -> ran(x, "x3"));
        undoable(x, 14, () -> ran(x, "x4"));
        SaltShares raised = town();
        raised.raise(2, 100);
        undoable(raised, 5, () -> raised.lower(2, 9));
        undoable(raised, 5, () -> raised.lower(2, 100));
        undoable(raised, 10, () -> raised.pass(50));
        SaltShares held = town();
        held.hold(149, 3, true);
        undoable(held, 9, () -> held.letGo(149, 3));
    }

    private static void aNewObject() {
        about("promise 1");
        SaltShares x = new SaltShares();
        for (int what = 0; what <= 8; what++) {
            due("count(" + what + ")", x.count(what), 0);
        }
        for (int group = 0; group < 3; group++) {
            due("salt of group " + group, x.count(10 + group), 11 * group + 11);
            due("free buckets of group " + group, x.count(20 + group), 100);
            due("owner", x.owner(group, 99), -1);
        }
        due("clearBuffer", x.clearBuffer(), 0);
        due("person(0, 0)", x.person(0, 0), 0);
        due("NONE", SaltShares.NONE, -1);
        fails(x, "bread(0, 0)", INDEX, () -> x.bread(0, 0));
    }

    private static void open() {
        about("promise 2");
        SaltShares x = new SaltShares();
        fails(x, "open(3)", ARGUMENT, () -> x.open(3, 0, false));
        fails(x, "open(-2)", ARGUMENT, () -> x.open(-2, 0, false));
        fails(x, "open salt -1 of a group", ARGUMENT, () -> x.open(0, -1, false));
        fails(x, "open salt 10000", ARGUMENT, () -> x.open(-1, 10000, false));
        due("open", x.open(2, 0, true), 0);
        due("open", x.open(-1, 9999, false), 1);
        due("its group", x.bread(1, 1), -1);
        due("its salt", x.bread(1, 2), 9999);
        due("salt of a bread of a group", x.bread(0, 2), 33);
        due("its share", x.bread(0, 3), 0);
        due("sticky", x.bread(0, 4) * 10 + x.bread(1, 4), 10);
        x.end(0);
        for (int bread = 2; bread < 8; bread++) {
            due("open", x.open(-1, 0, false), bread);
        }
        fails(x, "a ninth bread", STATE, () -> x.open(0, 0, false));
        fails(x, "a ninth bread of no group that there is", ARGUMENT, () -> x.open(3, 0, false));
        due("saved states", x.count(8), 6);
        x.undo();
        due("breads after undo", x.count(0), 7);
        due("open anew", x.open(1, 0, true), 7);
        due("sticky anew", x.bread(7, 4), 1);
        due("ended", x.bread(0, 0), 0);
    }

    private static void end() {
        about("promise 3");
        SaltShares x = town();
        x.raise(0, 100);
        x.hold(5, 0, true);
        x.hold(6, 0, false);
        x.pass(1);
        due("end", x.end(0), 149);
        due("open", x.bread(0, 0), 0);
        due("share", x.bread(0, 3), 0);
        due("eaters", x.bread(0, 5), 0);
        due("held in", x.bread(0, 8), 1);
        due("held out", x.bread(0, 9), 1);
        due("holds", x.count(7), 2);
        due("free buckets", x.count(20), 100);
        due("ate", x.bread(0, 6), 149);
        due("eats of one held in", x.eats(5, 0), 0);
        x.raise(3, 30);
        x.end(3);
        due("lowest bucket of an ended one", x.bread(3, 10), -1);
        due("highest bucket of an ended one", x.bread(3, 11), -1);
        fails(x, "end twice", STATE, () -> x.end(0));
        fails(x, "end(4)", INDEX, () -> x.end(4));
        fails(x, "end(-1)", INDEX, () -> x.end(-1));
        x.undo();
        due("share after undo", x.bread(3, 3), 30);
    }

    private static void raise() {
        about("promise 4");
        SaltShares x = town();
        due("raise to the same share", x.raise(0, 0), 0);
        due("raise", x.raise(0, 20), personsWithin(11, 0, 19));
        due("raise", x.raise(1, 30), personsWithin(11, 20, 49));
        due("raise", x.raise(0, 25), personsWithin(11, 50, 54));
        due("lowest", x.bread(0, 10), 0);
        due("highest", x.bread(0, 11), 54);
        due("of no group", x.raise(2, 50), personsWithin(42, 0, 49));
        due("all of it", x.raise(2, 100), personsWithin(42, 50, 99));
        fails(x, "raise(4)", INDEX, () -> x.raise(4, 101));
        fails(x, "raise to 101", ARGUMENT, () -> x.raise(0, 101));
        fails(x, "raise to -1", ARGUMENT, () -> x.raise(0, -1));
        fails(x, "raise down", STATE, () -> x.raise(0, 24));
        fails(x, "raise too far", STATE, () -> x.raise(0, 71));
        due("raise as far as it goes", x.raise(0, 70), personsWithin(11, 55, 99));
        due("free", x.count(20), 0);
        due("raise to the same share without free buckets", x.raise(1, 30), 0);
        x.end(0);
        fails(x, "raise an ended one", STATE, () -> x.raise(0, 0));
        fails(x, "raise an ended one to 101", ARGUMENT, () -> x.raise(0, 101));
        due("the gap first", x.raise(1, 50), personsWithin(11, 0, 19));
        due("owner", x.owner(0, 0), 1);
        x.undo();
        due("owner after undo", x.owner(0, 0), -1);
    }

    private static void lower() {
        about("promise 5");
        SaltShares x = town();
        x.raise(0, 20);
        x.raise(1, 30);
        x.raise(0, 25);
        due("lower to the same share", x.lower(0, 25), 0);
        due("lower", x.lower(0, 18), personsWithin(11, 50, 54) + personsWithin(11, 18, 19));
        due("highest", x.bread(0, 11), 17);
        due("free", x.count(20), 52);
        due("owner of a lost one", x.owner(0, 18), -1);
        due("owner of another's", x.owner(0, 20), 1);
        fails(x, "lower up", STATE, () -> x.lower(0, 19));
        fails(x, "lower to -1", ARGUMENT, () -> x.lower(0, -1));
        fails(x, "lower to 101", ARGUMENT, () -> x.lower(0, 101));
        fails(x, "lower(4)", INDEX, () -> x.lower(4, -1));
        x.raise(2, 100);
        x.pass(1);
        due("lower a sticky one", x.lower(2, 0), 0);
        due("it is eaten on", x.bread(2, 5), 150);
        x.raise(3, 60);
        due("lower of no group", x.lower(3, 40), personsWithin(42, 40, 59));
        x.undo();
        due("share after undo", x.bread(3, 3), 60);
        x.end(3);
        fails(x, "lower an ended one", STATE, () -> x.lower(3, 0));
    }

    private static void resalt() {
        about("promise 6");
        SaltShares x = town();
        x.raise(3, 40);
        int changed = 0;
        for (int person = 0; person < 150; person++) {
            changed += bucketOf(person, 42) < 40 == bucketOf(person, 9999) < 40 ? 0 : 1;
        }
        due("resalt", x.resalt(3, 9999), changed);
        due("its salt", x.bread(3, 2), 9999);
        due("resalt to the same salt", x.resalt(3, 9999), 0);
        x.undo();
        x.undo();
        due("its salt after undo", x.bread(3, 2), 42);
        x.raise(2, 100);
        x.pass(1);
        x.lower(2, 10);
        due("resalt a sticky one that all ate", x.resalt(2, 7), 0);
        fails(x, "resalt(4)", INDEX, () -> x.resalt(4, -1));
        fails(x, "resalt to -1", ARGUMENT, () -> x.resalt(3, -1));
        fails(x, "resalt to 10000", ARGUMENT, () -> x.resalt(0, 10000));
        fails(x, "resalt of a group", STATE, () -> x.resalt(0, 0));
        x.end(3);
        fails(x, "resalt an ended one", STATE, () -> x.resalt(3, 0));
    }

    private static void shake() {
        about("promise 7");
        SaltShares x = town();
        due("shake", x.shake(2, 9999), 33);
        due("shake", x.shake(2, 0), 9999);
        due("shake", x.shake(0, 77), 11);
        due("salt of its bread", x.bread(0, 2), 77);
        due("salt of another", x.bread(3, 2), 42);
        x.raise(0, 50);
        due("eaters", x.bread(0, 5), personsWithin(77, 0, 49));
        x.undo();
        x.undo();
        due("salt after undo", x.count(10), 11);
        fails(x, "shake(3)", INDEX, () -> x.shake(3, -1));
        fails(x, "shake(-1)", INDEX, () -> x.shake(-1, 0));
        fails(x, "shake to -1", ARGUMENT, () -> x.shake(0, -1));
        fails(x, "shake to 10000", ARGUMENT, () -> x.shake(0, 10000));
    }

    private static void hold() {
        about("promise 8");
        SaltShares x = town();
        due("hold in", x.hold(149, 0, true), 1);
        due("hold in again", x.hold(149, 0, true), 0);
        due("hold out instead", x.hold(149, 0, false), 1);
        due("holds", x.count(7), 1);
        due("hold out who does not eat", x.hold(0, 3, false), 0);
        x.raise(3, 100);
        due("still out", x.eats(0, 3), 0);
        due("hold in who eats", x.hold(1, 3, true), 0);
        due("why", x.eats(1, 3), 1);
        due("masks", x.person(0, 3) * 100 + x.person(149, 3) * 10 + x.person(149, 2), 810);
        x.raise(2, 100);
        x.pass(1);
        due("out overrules sticky", x.hold(7, 2, false), 1);
        for (int far : FAR) {
            fails(x, "hold " + far, INDEX, () -> x.hold(far, 0, true));
        }
        fails(x, "hold for 4", INDEX, () -> x.hold(0, 4, true));
        x.end(3);
        fails(x, "hold for an ended one", STATE, () -> x.hold(0, 3, true));
        fails(x, "hold nobody for an ended one", INDEX, () -> x.hold(150, 3, true));
        x.undo();
        x.undo();
        due("after undo", x.eats(7, 2), 3);
    }

    private static void letGo() {
        about("promise 9");
        SaltShares x = town();
        x.hold(3, 0, true);
        due("let go", x.letGo(3, 0), 1);
        fails(x, "let go twice", STATE, () -> x.letGo(3, 0));
        x.hold(3, 0, false);
        due("let go who does not eat", x.letGo(3, 0), 0);
        x.hold(4, 2, true);
        x.pass(1);
        due("let go who goes on eating as it is sticky", x.letGo(4, 2), 0);
        due("why", x.eats(4, 2), 2);
        x.hold(5, 3, true);
        x.end(3);
        due("let go of an ended one", x.letGo(5, 3), 0);
        fails(x, "let go of an ended one twice", STATE, () -> x.letGo(5, 3));
        for (int far : FAR) {
            fails(x, "let go " + far, INDEX, () -> x.letGo(far, 0));
        }
        fails(x, "let go of 4", INDEX, () -> x.letGo(0, 4));
        x.undo();
        due("after undo", x.person(5, 2), 8);
    }

    private static void pass() {
        about("promise 10");
        SaltShares x = town();
        due("a day without eaters", x.pass(1), 0);
        x.raise(0, 100);
        x.raise(2, 100);
        x.hold(9, 0, false);
        due("pass", x.pass(50), 50 * 299);
        due("day", x.count(2), 51);
        due("servings", x.count(3), 50 * 299);
        due("servings of a bread", x.bread(0, 7), 50 * 149);
        due("servings of a person", x.person(9, 4), 50);
        due("what a person ate", x.person(9, 1), 4);
        due("saved as one", x.undo(), 5);
        due("day after undo", x.count(2), 1);
        due("servings after undo", x.count(3) + x.person(9, 4) + x.bread(0, 7) + x.bread(0, 6), 0);
        fails(x, "pass(0)", ARGUMENT, () -> x.pass(0));
        fails(x, "pass(51)", ARGUMENT, () -> x.pass(51));
        fails(x, "pass(-1)", ARGUMENT, () -> x.pass(-1));
    }

    private static void texts() {
        about("promise 11");
        SaltShares x = new SaltShares();
        due("append", x.append(33), 1);
        due("append", x.append(126), 2);
        fails(x, "append(32)", ARGUMENT, () -> x.append(32));
        fails(x, "append(127)", ARGUMENT, () -> x.append(127));
        for (int i = 3; i <= 60; i++) {
            due("append", x.append('d'), i);
        }
        fails(x, "append the 61st", STATE, () -> x.append('d'));
        fails(x, "append the 61st, out of range", ARGUMENT, () -> x.append(0));
        due("not undoable", x.count(8), 0);
        about("promise 12");
        due("clearBuffer", x.clearBuffer(), 60);
        due("clearBuffer", x.clearBuffer(), 0);
        due("append then", x.append('d'), 1);
        due("not undoable", x.count(8), 0);
    }

    private static void error(String text, int index) {
        SaltShares x = new SaltShares();
        type(x, text);
        due("firstError of " + text, x.firstError(), index);
        due("length of " + text, x.clearBuffer(), text.length());
    }

    /** Of all characters, just the wanted ones may follow. */
    private static void follow(String text, String wanted) {
        for (char c = 33; c <= 126; c++) {
            error(text + c, wanted.indexOf(c) >= 0 ? text.length() + 1 : text.length());
        }
    }

    private static void followers() {
        String digits = "0123456789";
        String[][] rows = {{"", "+-iodx"}, {"d1;", "+-iodx"}, {"+", "01234567"}, {"x", "01234567"}, {"o1@", "01234567"},
            {"+0", "="}, {"-7", "="}, {"x7", ";"}, {"i1@0", ";"}, {"-1=", digits}, {"+0=0", ";"},
            {"+0=1", digits + ";"},
            {"+0=9", digits + ";"}, {"-0=10", "0;"}, {"+0=11", ";"}, {"+0=99", ";"}, {"+0=100", ";"}, {"i", digits},
            {"i0", "@"}, {"i1", digits + "@"}, {"i9", digits + "@"}, {"i14", digits + "@"}, {"o15", "@"}, {"i149", "@"},
            {"d", "123456789"}, {"d1", digits + ";"}, {"d4", digits + ";"}, {"d5", "0;"}, {"d6", ";"}, {"d50", ";"}};
        for (String[] row : rows) {
            follow(row[0], row[1]);
        }
    }

    private static void firstError() {
        about("promise 13");
        followers();
        String[] fine = {"", "+", "-7", "+0=", "+0=0", "-7=99", "+1=100", "+1=100;", "i0@0", "o149@7", "i14", "x0;x7",
            "d1", "d50;d9;", "i100@1;o99@2;+3=40;-4=9;x5;d49"};
        for (String text : fine) {
            error(text, text.length());
        }
        error(";", 0);
        error("X", 0);
        error("+8", 1);
        error("+-", 1);
        error("+0;", 2);
        error("+00", 2);
        error("+0=;", 3);
        error("+0=101", 5);
        error("+0=00", 4);
        error("+0=05;", 4);
        error("+0=110", 5);
        error("+0=1000", 6);
        error("i@", 1);
        error("i01", 2);
        error("i150", 3);
        error("i200", 3);
        error("i1490", 4);
        error("i1=", 2);
        error("i1;", 2);
        error("i1@8", 3);
        error("i1@1@", 4);
        error("i1@11", 4);
        error("d0", 1);
        error("d51", 2);
        error("d60", 2);
        error("d100", 3);
        error("d1@", 2);
        error("d;", 1);
        error("x8", 1);
        error("x11", 2);
        error("d1;;", 3);
        error("d1;d1;y", 6);
        StringBuilder full = new StringBuilder();
        for (int i = 0; i < 20; i++) {
            full.append("x0;");
        }
        error(full.toString(), 60);
        error(full.substring(0, 57) + "+0=", 60);
    }

    private static void run() {
        about("promise 14");
        SaltShares x = town();
        due("run", ran(x, "+0=40;i5@1;o6@0;+3=100;-3=30;d3;x0"), 7);
        due("buffer", x.clearBuffer(), 0);
        due("share", x.bread(3, 3), 30);
        due("held in", x.eats(5, 1), 1);
        due("held out", x.person(6, 3), 1);
        due("day", x.count(2), 3);
        due("ended", x.bread(0, 0), 0);
        due("saved as one", x.count(8), 5);
        x.undo();
        due("all undone", x.count(2) + x.count(7) + x.bread(3, 3) + x.bread(0, 3), 0);
        due("up to the first that throws", ran(x, "d1;+0=5;+0=4;d1"), 2);
        due("day", x.count(2), 1);
        due("lowered up", ran(x, "-0=6"), 0);
        due("saved though none is carried out", x.count(8), 6);
        due("not so many buckets left", ran(x, "+1=96;d1"), 0);
        due("no such bread", ran(x, "x4") + ran(x, "i0@7") + ran(x, "+7=0") + ran(x, "-7=0"), 0);
        x.end(0);
        due("ended bread", ran(x, "x0") + ran(x, "o0@0") + ran(x, "+0=0") + ran(x, "-0=0"), 0);
        due("day", x.count(2), 1);
        for (String text : new String[] {"", "d", "+0", "+0=", "i14", "i14@", "x", "d1;", "d0", "d1;y"}) {
            type(x, text);
            fails(x, "run of " + text, ARGUMENT, x::run);
            due("buffer stays", x.clearBuffer(), text.length());
        }
        StringBuilder full = new StringBuilder("d50");
        for (int i = 0; i < 19; i++) {
            full.append(";d1");
        }
        due("a full buffer", ran(x, full.toString()), 20);
        due("day", x.count(2), 1 + 50 + 19);
    }

    private static void undo() {
        about("promise 15");
        SaltShares x = new SaltShares();
        fails(x, "undo without saved states", STATE, x::undo);
        for (int bread = 0; bread < 8; bread++) {
            x.open(-1, bread, false);
        }
        due("at most 6", x.count(8), 6);
        type(x, "d1");
        for (int left = 5; left >= 0; left--) {
            due("undo", x.undo(), left);
            due("breads", x.count(0), left + 2);
        }
        due("the buffer is not undone", x.clearBuffer(), 2);
        fails(x, "undo once too often", STATE, x::undo);
        SaltShares y = town();
        y.raise(0, 60);
        long before = y.digest();
        int saved = y.count(8);
        y.pass(2);
        y.undo();
        due("digest", y.digest(), before);
        y.raise(0, 60);
        due("saved if nothing is changed", y.count(8), saved + 1);
        y.digest();
        y.ifShare(0, 3);
        due("asking saves nothing", y.count(8), saved + 1);
    }

    private static void eats() {
        about("promise 16");
        SaltShares x = town();
        due("nothing", x.eats(0, 2), 0);
        x.hold(1, 2, true);
        x.raise(2, 100);
        due("held in rather than by the bucket", x.eats(1, 2), 1);
        due("by the bucket", x.eats(0, 2), 3);
        x.pass(1);
        due("by the bucket though eaten before", x.eats(0, 2), 3);
        x.lower(2, 0);
        due("sticky", x.eats(0, 2), 2);
        due("held in rather than sticky", x.eats(1, 2), 1);
        x.hold(0, 2, false);
        due("held out", x.eats(0, 2), 0);
        x.end(2);
        due("ended", x.eats(1, 2) + x.eats(3, 2), 0);
        for (int far : FAR) {
            fails(x, "eats " + far, INDEX, () -> x.eats(far, 0));
        }
        fails(x, "eats of bread 4", INDEX, () -> x.eats(0, 4));
        fails(x, "eats of bread -1", INDEX, () -> x.eats(0, -1));
    }

    private static void bucket() {
        about("promise 17");
        SaltShares x = town();
        due("bucket", x.bucket(0, 2), 95);
        x.shake(0, 9999);
        x.end(1);
        for (int person = 0; person < 150; person++) {
            due("by its salt", x.bucket(person, 3), bucketOf(person, 42));
            due("by the salt of the group, also if it has ended", x.bucket(person, 1), bucketOf(person, 9999));
        }
        for (int far : FAR) {
            fails(x, "bucket of " + far, INDEX, () -> x.bucket(far, 0));
        }
        fails(x, "bucket for 4", INDEX, () -> x.bucket(0, 4));
    }

    private static void bread() {
        about("promise 18");
        SaltShares x = town();
        x.raise(1, 10);
        x.raise(0, 20);
        x.hold(1, 0, true);
        x.hold(2, 0, false);
        x.hold(3, 0, false);
        x.lower(1, 0);
        x.pass(2);
        int eaters = 1;
        for (int person = 0; person < 150; person++) {
            int bucket = bucketOf(person, 11);
            eaters += (person < 1 || person > 3) && bucket >= 10 && bucket < 30 ? 1 : 0;
        }
        int[] want = {1, 0, 11, 20, 0, eaters, eaters, 2 * eaters, 1, 2, 10, 29};
        for (int what = 0; what < 12; what++) {
            due("bread(0, " + what + ")", x.bread(0, what), want[what]);
        }
        due("sticky", x.bread(1, 4), 1);
        due("no bucket", x.bread(1, 10) + x.bread(1, 11), -2);
        fails(x, "bread(0, -1)", ARGUMENT, () -> x.bread(0, -1));
        fails(x, "bread(0, 12)", ARGUMENT, () -> x.bread(0, 12));
        fails(x, "bread(4, 12)", INDEX, () -> x.bread(4, 12));
        fails(x, "bread(-1, 0)", INDEX, () -> x.bread(-1, 0));
    }

    private static void person() {
        about("promise 19");
        SaltShares x = town();
        x.raise(3, 100);
        x.hold(149, 0, true);
        x.hold(149, 1, false);
        x.pass(3);
        x.end(3);
        int[] want = {1, 9, 1, 2, 6};
        for (int what = 0; what < 5; what++) {
            due("person(149, " + what + ")", x.person(149, what), want[what]);
        }
        due("person(0, 4)", x.person(0, 4), 3);
        fails(x, "person(0, -1)", ARGUMENT, () -> x.person(0, -1));
        fails(x, "person(0, 5)", ARGUMENT, () -> x.person(0, 5));
        for (int far : FAR) {
            fails(x, "person " + far, INDEX, () -> x.person(far, 5));
        }
    }

    private static void owner() {
        about("promise 20");
        SaltShares x = town();
        x.open(2, 0, false);
        x.raise(1, 1);
        x.raise(0, 1);
        x.raise(4, 100);
        x.raise(3, 100);
        due("owner", x.owner(0, 0), 1);
        due("owner", x.owner(0, 1), 0);
        due("no owner", x.owner(0, 2), -1);
        due("owner", x.owner(2, 99), 4);
        due("breads of no group own none of a group's", x.owner(1, 0), -1);
        fails(x, "owner(3, 0)", INDEX, () -> x.owner(3, 0));
        fails(x, "owner(-1, 0)", INDEX, () -> x.owner(-1, 0));
        fails(x, "owner(0, 100)", INDEX, () -> x.owner(0, 100));
        fails(x, "owner(0, -1)", INDEX, () -> x.owner(0, -1));
    }

    private static void count() {
        about("promise 21");
        SaltShares x = town();
        x.end(1);
        x.raise(3, 100);
        x.open(0, 0, false);
        x.hold(1, 0, true);
        x.hold(1, 4, true);
        x.hold(2, 3, false);
        x.hold(2, 0, true);
        x.pass(2);
        x.lower(3, 0);
        x.hold(2, 3, true);
        x.raise(0, 0);
        int[] want = {5, 4, 2, 2 * 152, 2, 150, 1, 4, 6};
        for (int what = 0; what < 9; what++) {
            due("count(" + what + ")", x.count(what), want[what]);
        }
        x.hold(2, 2, true);
        due("breads of no group are no group", x.count(6), 1);
        x.raise(4, 33);
        x.shake(1, 5);
        due("salts", x.count(10) * 10000 + x.count(11) * 100 + x.count(12), 110533);
        due("free buckets", x.count(20) * 1000000 + x.count(21) * 1000 + x.count(22), 67100100);
        for (int what : new int[] {Integer.MIN_VALUE, -1, 9, 13, 19, 23, Integer.MAX_VALUE}) {
            fails(x, "count(" + what + ")", ARGUMENT, () -> x.count(what));
        }
    }

    private static void overlap() {
        about("promise 22");
        SaltShares x = town();
        x.raise(2, 60);
        x.raise(3, 20);
        due("overlap", x.overlap(2, 3), personsWithin(42, 0, 19));
        due("with itself", x.overlap(2, 2), personsWithin(42, 0, 59));
        due("of one that nobody eats", x.overlap(2, 0), 0);
        x.end(3);
        due("of an ended one", x.overlap(3, 2), 0);
        fails(x, "overlap(4, 0)", INDEX, () -> x.overlap(4, 0));
        fails(x, "overlap(0, 4)", INDEX, () -> x.overlap(0, 4));
        fails(x, "overlap(0, -1)", INDEX, () -> x.overlap(0, -1));
    }

    private static void ifShare() {
        about("promise 23");
        SaltShares x = town();
        x.raise(0, 20);
        x.raise(1, 30);
        x.raise(0, 25);
        due("lowered", x.ifShare(0, 22), personsWithin(11, 0, 19) + personsWithin(11, 50, 51));
        due("raised", x.ifShare(1, 40), personsWithin(11, 20, 49) + personsWithin(11, 55, 64));
        due("as it is", x.ifShare(1, 30), personsWithin(11, 20, 49));
        due("as far as it goes", x.ifShare(0, 70), 150 - personsWithin(11, 20, 49));
        due("too far", x.ifShare(0, 71), -1);
        due("nothing is changed", x.bread(0, 3), 25);
        x.raise(2, 100);
        x.pass(1);
        due("sticky", x.ifShare(2, 0), 150);
        x.hold(0, 2, false);
        x.hold(1, 3, true);
        due("held", x.ifShare(2, 100) * 10 + x.ifShare(3, 0), 1491);
        x.end(3);
        due("ended", x.ifShare(3, 0), -1);
        fails(x, "ifShare(4)", INDEX, () -> x.ifShare(4, 101));
        fails(x, "ifShare to 101", ARGUMENT, () -> x.ifShare(3, 101));
        fails(x, "ifShare to -1", ARGUMENT, () -> x.ifShare(0, -1));
    }

    private static void shareFor() {
        about("promise 24");
        SaltShares x = town();
        due("nobody", x.shareFor(2, 0), 0);
        int least = 0;
        while (personsWithin(42, 0, least - 1) < 75) {
            least++;
        }
        due("half", x.shareFor(2, 75), least);
        x.raise(2, 90);
        due("half from above", x.shareFor(2, 75), least);
        x.raise(0, 40);
        due("as far as it goes", x.shareFor(1, 150), -1);
        due("one more than it can", x.shareFor(1, 151 - personsWithin(11, 0, 39)), -1);
        due("free ones from 40 on", x.shareFor(1, personsWithin(11, 40, 99)) <= 60 ? 1 : 0, 1);
        x.hold(0, 3, true);
        due("by hold alone", x.shareFor(3, 1), 0);
        x.pass(1);
        due("by hold and sticky", x.shareFor(2, personsWithin(42, 0, 89)), 0);
        x.end(2);
        due("ended", x.shareFor(2, 0), -1);
        x.raise(3, 100);
        x.hold(0, 3, false);
        due("one is held out", x.shareFor(3, 150), -1);
        fails(x, "shareFor(4)", INDEX, () -> x.shareFor(4, -1));
        fails(x, "shareFor of 151", ARGUMENT, () -> x.shareFor(2, 151));
        fails(x, "shareFor of -1", ARGUMENT, () -> x.shareFor(0, -1));
    }

    private static void bestSalt() {
        about("promise 25");
        SaltShares x = town();
        due("all as good", x.bestSalt(3, 500), 500);
        x.raise(3, 40);
        for (int from = 0; from <= 9999; from += from < 60 || from > 9950 ? 1 : 99) {
            int best = from;
            for (int salt = from; salt <= from + 19 && salt <= 9999; salt++) {
                best = personsWithin(salt, 0, 39) > personsWithin(best, 0, 39) ? salt : best;
            }
            due("bestSalt from " + from, x.bestSalt(3, from), best);
        }
        due("nothing is changed", x.bread(3, 2), 42);
        due("in a group", x.bestSalt(0, 0), -1);
        x.end(3);
        due("ended", x.bestSalt(3, 0), -1);
        fails(x, "bestSalt(4)", INDEX, () -> x.bestSalt(4, -1));
        fails(x, "bestSalt from -1", ARGUMENT, () -> x.bestSalt(0, -1));
        fails(x, "bestSalt from 10000", ARGUMENT, () -> x.bestSalt(3, 10000));
    }

    private static void nextEater() {
        about("promise 26");
        SaltShares x = town();
        for (int share = 0; share < 100; share++) {
            x.raise(3, share);
            int bucket = share;
            while (bucket < 100 && firstOf(42, bucket) < 0) {
                bucket++;
            }
            due("nextEater at " + share, x.nextEater(3), bucket == 100 ? -1 : firstOf(42, bucket));
        }
        x.raise(3, 100);
        due("nobody is left", x.nextEater(3), -1);
        int first = x.nextEater(2);
        x.hold(first, 2, false);
        due("one who is held out does not come", x.nextEater(2) != first ? 1 : 0, 1);
        x.hold(first, 2, true);
        due("one who is held in has come", x.nextEater(2) != first ? 1 : 0, 1);
        x.letGo(first, 2);
        due("the first again", x.nextEater(2), first);
        x.raise(1, 100);
        due("no bucket is left", x.nextEater(0), -1);
        x.pass(1);
        x.lower(1, 0);
        due("all eat it as it is sticky", x.nextEater(1), -1);
        x.end(2);
        due("ended", x.nextEater(2), -1);
        fails(x, "nextEater(4)", INDEX, () -> x.nextEater(4));
        fails(x, "nextEater(-1)", INDEX, () -> x.nextEater(-1));
    }

    private static void part() {
        about("promise 27");
        SaltShares x = town();
        due("nobody", x.part(0) == 0.0 ? 1 : 0, 1);
        for (int person = 0; person < 150; person++) {
            x.hold(person, 0, true);
            due("part", x.part(0) == (person + 1) / 150.0 ? 1 : 0, 1);
        }
        due("all", x.part(0) == 1.0 ? 1 : 0, 1);
        x.end(0);
        due("ended", x.part(0) == 0.0 ? 1 : 0, 1);
        fails(x, "part(4)", INDEX, () -> (long) x.part(4));
        fails(x, "part(-1)", INDEX, () -> (long) x.part(-1));
    }

    private static long digestOf(SaltShares x, String text) {
        long hash = 2459;
        for (int what : new int[] {0, 1, 2, 3, 4, 5, 6, 7, 8, 10, 11, 12, 20, 21, 22}) {
            hash = 31 * hash + x.count(what);
        }
        for (int bread = 0; bread < x.count(0); bread++) {
            for (int what = 0; what < 12; what++) {
                hash = 31 * hash + x.bread(bread, what);
            }
            hash = 31 * hash + x.overlap(bread, 0);
            hash = 31 * hash + x.ifShare(bread, 50);
            hash = 31 * hash + x.shareFor(bread, 75);
            hash = 31 * hash + x.bestSalt(bread, 100);
            hash = 31 * hash + x.nextEater(bread);
            hash = 31 * hash + Double.doubleToLongBits(x.part(bread));
            for (int person = 0; person < 150; person++) {
                hash = 31 * hash + x.eats(person, bread);
            }
        }
        for (int person = 0; person < 150; person++) {
            for (int what = 0; what < 5; what++) {
                hash = 31 * hash + x.person(person, what);
            }
        }
        for (int i = 0; i < 300; i++) {
            hash = 31 * hash + x.owner(i / 100, i % 100);
        }
        hash = 31 * hash + text.length();
        for (int i = 0; i < text.length(); i++) {
            hash = 31 * hash + text.charAt(i);
        }
        return hash;
    }

    private static void digest() {
        about("promise 28");
        SaltShares x = new SaltShares();
        due("digest of a new object", x.digest(), digestOf(x, ""));
        SaltShares y = town();
        y.raise(0, 30);
        y.raise(3, 55);
        type(y, "!~d1");
        due("digest", y.digest(), digestOf(y, "!~d1"));
        for (int person = 0; person < 150; person++) {
            y.hold(person, 1, true);
            due("digest", y.digest(), digestOf(y, "!~d1"));
        }
        due("digest changes nothing", y.digest(), y.digest());
    }

    public static void main(String[] args) {
        aNewObject();
        open();
        end();
        raise();
        lower();
        resalt();
        shake();
        hold();
        letGo();
        pass();
        texts();
        firstError();
        run();
        undo();
        eats();
        bucket();
        bread();
        person();
        owner();
        count();
        overlap();
        ifShare();
        shareFor();
        bestSalt();
        nextEater();
        part();
        digest();
        undoableOnes();
        close("PromiseTest");
    }
}
