/** Promises 1 to 7, a test for each sentence of them that names a boundary: too small, too large, none, all. */
public final class BreadsBoundaryTest extends Checks {
    // ---- Promise 1

    private static void aNewObject() {
        about("1: Creates a town without breads, on the day 0, with an empty buffer");
        SaltShares x = new SaltShares();
        for (int what = 0; what <= 8; what++) {
            onlyTells(SaltShares::new, "count(" + what + ")", 0, counting(what));
        }
        for (int person = 0; person < 150; person++) {
            for (int what = 0; what <= 4; what++) {
                due("person(" + person + ", " + what + ")", x.person(person, what), 0);
            }
        }
        for (int bucket = 0; bucket < 300; bucket++) {
            due("owner of " + bucket, x.owner(bucket / 100, bucket % 100), -1);
        }
        due("NONE", SaltShares.NONE, -1);
        due("firstError", x.firstError(), 0);
        due("clearBuffer", x.clearBuffer(), 0);
        fails(x, "undo", STATE, x::undo);
        fails(x, "run", ARGUMENT, x::run);
        fails(x, "bread(0, 0)", INDEX, () -> x.bread(0, 0));
        due("append", x.append('d'), 1);
        due("another object has a buffer of its own", new SaltShares().clearBuffer(), 0);
    }

    private static CallOn counting(int what) {
        return x -> x.count(what);
    }

    // ---- Promise 2

    private static void openInAGroup() {
        about("2: group is 0 to 2, or NONE");
        for (int group : new int[] {MIN, -3, -2, 3, 4, MAX}) {
            refused(SaltShares::new, "open(" + group + ")", ARGUMENT, x -> x.open(group, 0, false));
            refused(Checks::busyTown, "open(" + group + ")", ARGUMENT, x -> x.open(group, 0, true));
        }
        SaltShares x = new SaltShares();
        for (int group = -1; group <= 2; group++) {
            due("open(" + group + ")", x.open(group, 0, false), group + 1);
            due("its group", x.bread(group + 1, 1), group);
        }
    }

    private static void openWithASalt() {
        about("2: salt is 0 to 9999 (of a bread of a group it does not matter)");
        for (int salt : SALTS_OUT_OF_RANGE) {
            refused(Checks::town, "open with salt " + salt, ARGUMENT, x -> x.open(-1, salt, false));
            refused(Checks::town, "open in a group with salt " + salt, ARGUMENT, x -> x.open(0, salt, false));
        }
        SaltShares x = new SaltShares();
        for (int salt : new int[] {0, 1, 9998, 9999}) {
            due("its salt", x.bread(x.open(-1, salt, false), 2), salt);
            due("its salt in a group", x.bread(x.open(2, salt, false), 2), 33);
        }
    }

    private static void openWithTheShare0() {
        about("2: Opens a bread, with the share 0");
        SaltShares x = town();
        x.raise(0, 100);
        x.raise(2, 100);
        x.pass(1);
        x.hold(0, 2, true);
        for (int group = -1; group <= 0; group++) {
            int bread = x.open(group, 42, true);
            int[] want = {1, group, group < 0 ? 42 : 11, 0, 1, 0, 0, 0, 0, 0, -1, -1};
            for (int what = 0; what <= 11; what++) {
                due("bread(" + bread + ", " + what + ")", x.bread(bread, what), want[what]);
            }
        }
        due("sticky", x.bread(x.open(-1, 0, true), 4), 1);
        due("not sticky", x.bread(x.open(-1, 0, false), 4), 0);
    }

    private static void openANinth() {
        about("2: Throws IllegalStateException if there are 8 breads");
        Maker eight = () -> {
            SaltShares x = busyTown();
            for (int bread = 5; bread < 8; bread++) {
                due("open", x.open(bread - 6, bread, true), bread);
            }
            return x;
        };
        refused(eight, "a ninth", STATE, x -> x.open(-1, 0, false));
        refused(eight, "a ninth in a group", STATE, x -> x.open(2, 9999, true));
        refused(eight, "a ninth in no group that there is", ARGUMENT, x -> x.open(-2, 0, false));
        refused(eight, "a ninth with no salt that there is", ARGUMENT, x -> x.open(0, 10000, false));
        SaltShares x = eight.make();
        x.undo();
        due("open after undo of the eighth", x.open(2, 0, false), 7);
    }

    private static void openAnewAfterUndo() {
        about("2: Undoable; one that came again has nothing of the one that was undone");
        SaltShares x = town();
        x.open(-1, 7, true);
        x.raise(4, 100);
        x.hold(3, 4, true);
        x.pass(2);
        x.hold(4, 4, false);
        for (int left = 4; left >= 0; left--) {
            due("undo", x.undo(), left + 1);
        }
        due("breads", x.count(0), 4);
        due("open", x.open(0, 0, false), 4);
        int[] want = {1, 0, 11, 0, 0, 0, 0, 0, 0, 0, -1, -1};
        for (int what = 0; what <= 11; what++) {
            due("bread(4, " + what + ")", x.bread(4, what), want[what]);
        }
    }

    // ---- Promise 3

    private static void endTellsHowManyAteIt() {
        about("3: Returns how many persons ate it so far");
        onlyEnds("nobody", withBread(0, true, 100), 0);
        SaltShares all = withBread(0, false, 100);
        all.pass(50);
        onlyEnds("all, each one once", all, 150);
        all = withBread(0, false, 100);
        all.pass(1);
        all.lower(0, 0);
        onlyEnds("all, though they eat it no more", all, 150);
        SaltShares one = withBread(0, false, 0);
        one.hold(149, 0, true);
        one.pass(1);
        onlyEnds("the one who was held in", one, 1);
    }

    private static void onlyEnds(String what, SaltShares x, int due) {
        due("end of one eaten by " + what, x.end(0), due);
        due("open", x.bread(0, 0), 0);
        due("ate it", x.bread(0, 6), due);
    }

    private static void endKeepsHolds() {
        about("3: Ends a bread. (Holds for it stay.)");
        SaltShares x = town();
        x.hold(0, 2, true);
        x.hold(149, 2, false);
        x.end(2);
        due("held in", x.bread(2, 8), 1);
        due("held out", x.bread(2, 9), 1);
        due("of the first", x.person(0, 2), 4);
        due("of the last", x.person(149, 3), 4);
        due("holds", x.count(7), 2);
        due("still its group", x.bread(2, 1), -1);
        due("still its salt", x.bread(2, 2), 42);
        due("still sticky", x.bread(2, 4), 1);
    }

    private static void endRefuses() {
        about("3: no such bread; it has ended");
        refusesNoBreads("end", SaltShares::end);
        refused(Checks::busyTown, "end of an ended one", STATE, x -> x.end(4));
        SaltShares x = withBread(0, false, 0);
        due("end", x.end(0), 0);
        fails(x, "end again", STATE, () -> x.end(0));
        x.undo();
        due("end after undo", x.end(0), 0);
    }

    private static void endIsUndone() {
        about("3: Undoable");
        SaltShares x = town();
        x.raise(0, 20);
        x.raise(1, 20);
        x.lower(0, 10);
        x.raise(1, 35);
        x.end(1);
        due("free", x.count(20), 90);
        x.undo();
        due("open", x.bread(1, 0), 1);
        due("lowest", x.bread(1, 10), 10);
        due("highest", x.bread(1, 11), 44);
        due("eaters", x.bread(1, 5), personsWithin(11, 10, 44));
    }

    // ---- Promise 4

    private static void raiseToAShare() {
        about("4: the new share, 0 to 100");
        for (int share : SHARES_OUT_OF_RANGE) {
            refused(Checks::busyTown, "raise to " + share, ARGUMENT, x -> x.raise(3, share));
            refused(Checks::busyTown, "raise in a group to " + share, ARGUMENT, x -> x.raise(0, share));
        }
        for (int bread = 0; bread <= 3; bread += 3) {
            SaltShares x = town();
            int salt = bread == 0 ? 11 : 42;
            due("raise from 0 to 0", x.raise(bread, 0), 0);
            due("raise from 0 to 1", x.raise(bread, 1), personsWithin(salt, 0, 0));
            due("raise from 1 to 99", x.raise(bread, 99), personsWithin(salt, 1, 98));
            due("raise from 99 to 100", x.raise(bread, 100), personsWithin(salt, 99, 99));
            due("raise from 100 to 100", x.raise(bread, 100), 0);
            due("share", x.bread(bread, 3), 100);
        }
    }

    private static void raiseTellsHowManyMore() {
        about("4: Returns how many persons more eat it then");
        SaltShares x = withBread(0, false, 0);
        for (int person = 0; person < 150; person++) {
            x.hold(person, 0, person < 100);
        }
        due("all are held in or out", x.raise(0, 100), 0);
        SaltShares sticky = withBread(0, true, 50);
        sticky.pass(1);
        sticky.lower(0, 0);
        due("they eat it already", sticky.raise(0, 50), 0);
        due("these do not yet", sticky.raise(0, 100), personsWithin(0, 50, 99));
        due("all from nobody", withBread(5, false, 0).raise(0, 100), 150);
    }

    private static void raiseRefuses() {
        about("4: no such bread; it has ended, its share is greater");
        refusesNoBreads("raise", (x, bread) -> x.raise(bread, 100));
        refusesNoBreads("raise too far", (x, bread) -> x.raise(bread, 101));
        refused(Checks::busyTown, "raise of an ended one to 0", STATE, x -> x.raise(4, 0));
        refused(Checks::busyTown, "raise of an ended one to 100", STATE, x -> x.raise(4, 100));
        refused(Checks::busyTown, "raise of an ended one to 101", ARGUMENT, x -> x.raise(4, 101));
        refused(Checks::busyTown, "raise to one less", STATE, x -> x.raise(3, 9));
        refused(Checks::busyTown, "raise to 0", STATE, x -> x.raise(3, 0));
        refused(Checks::busyTown, "raise in a group to one less", STATE, x -> x.raise(1, 29));
        onlyOnce("raise to as many", x -> x.raise(3, 10), 0);
    }

    private static void onlyOnce(String what, CallOn call, int due) {
        due(what, call.on(busyTown()), due);
    }

    private static void raiseInAFullGroup() {
        about("4: its group has not so many buckets left");
        Maker full = () -> {
            SaltShares x = busyTown();
            x.raise(1, 75);
            return x;
        };
        due("free", full.make().count(20), 0);
        refused(Checks::busyTown, "raise by one more than are left", STATE, x -> x.raise(0, 71));
        refused(Checks::busyTown, "raise by one more than are left", STATE, x -> x.raise(1, 76));
        refused(Checks::busyTown, "raise to 100", STATE, x -> x.raise(1, 100));
        refused(full, "raise by one where none is left", STATE, x -> x.raise(0, 26));
        undoable(full, "raise by none where none is left", 0, x -> x.raise(0, 25));
        undoable(full, "raise of one in no group", 150 - busyTown().bread(3, 5), x -> x.raise(3, 100));
        SaltShares x = full.make();
        x.open(1, 0, false);
        due("another group has all", x.raise(5, 100), 150);
        due("the last bucket that was left", x.owner(0, 99), 1);
    }

    private static void raiseByTheLastOne() {
        about("4: its group has not so many buckets left");
        SaltShares x = town();
        x.raise(0, 99);
        due("free", x.count(20), 1);
        fails(x, "raise by two", STATE, () -> x.raise(1, 2));
        due("raise by one", x.raise(1, 1), personsWithin(11, 99, 99));
        fails(x, "raise of the other", STATE, () -> x.raise(0, 100));
        x.end(0);
        due("raise when the other has ended", x.raise(1, 100), personsWithin(11, 0, 98));
    }

    // ---- Promise 5

    private static void lowerToAShare() {
        about("5: the new share, 0 to 100");
        for (int share : SHARES_OUT_OF_RANGE) {
            refused(Checks::busyTown, "lower to " + share, ARGUMENT, x -> x.lower(3, share));
            refused(Checks::busyTown, "lower in a group to " + share, ARGUMENT, x -> x.lower(0, share));
        }
        for (int bread = 0; bread <= 3; bread += 3) {
            SaltShares x = town();
            int salt = bread == 0 ? 11 : 42;
            due("lower from 0 to 0", x.lower(bread, 0), 0);
            x.raise(bread, 100);
            due("lower from 100 to 100", x.lower(bread, 100), 0);
            due("lower from 100 to 99", x.lower(bread, 99), personsWithin(salt, 99, 99));
            due("lower from 99 to 1", x.lower(bread, 1), personsWithin(salt, 1, 98));
            due("lower from 1 to 0", x.lower(bread, 0), personsWithin(salt, 0, 0));
            due("share", x.bread(bread, 3), 0);
        }
    }

    private static void lowerTellsHowManyLess() {
        about("5: Returns how many persons less eat it then");
        SaltShares x = withBread(0, false, 100);
        for (int person = 0; person < 150; person++) {
            x.hold(person, 0, person < 100);
        }
        due("all are held in or out", x.lower(0, 0), 0);
        SaltShares sticky = withBread(0, true, 50);
        sticky.pass(1);
        sticky.raise(0, 100);
        due("those who did not eat it yet", sticky.lower(0, 50), personsWithin(0, 50, 99));
        due("those who did stay", sticky.lower(0, 0), 0);
        due("all", withBread(5, false, 100).lower(0, 0), 150);
    }

    private static void lowerRefuses() {
        about("5: no such bread; it has ended, or its share is less");
        refusesNoBreads("lower", (x, bread) -> x.lower(bread, 0));
        refusesNoBreads("lower too far", (x, bread) -> x.lower(bread, -1));
        refused(Checks::busyTown, "lower of an ended one to 0", STATE, x -> x.lower(4, 0));
        refused(Checks::busyTown, "lower of an ended one to -1", ARGUMENT, x -> x.lower(4, -1));
        refused(Checks::busyTown, "lower to one more", STATE, x -> x.lower(3, 11));
        refused(Checks::busyTown, "lower to 100", STATE, x -> x.lower(3, 100));
        refused(Checks::busyTown, "lower in a group to one more", STATE, x -> x.lower(1, 31));
        onlyOnce("lower to as many", x -> x.lower(3, 10), 0);
    }

    // ---- Promise 6

    private static void resaltToASalt() {
        about("6: salt is 0 to 9999");
        for (int salt : SALTS_OUT_OF_RANGE) {
            refused(Checks::busyTown, "resalt to " + salt, ARGUMENT, x -> x.resalt(3, salt));
        }
        SaltShares x = withBread(0, false, 50);
        for (int salt : new int[] {0, 9999, 9999, 0, 1}) {
            int before = x.bread(0, 2);
            int changed = 0;
            for (int person = 0; person < 150; person++) {
                changed += bucketOf(person, before) < 50 == bucketOf(person, salt) < 50 ? 0 : 1;
            }
            due("resalt from " + before + " to " + salt, x.resalt(0, salt), changed);
            due("its salt", x.bread(0, 2), salt);
            due("its eaters", x.bread(0, 5), personsWithin(salt, 0, 49));
            due("its share", x.bread(0, 3), 50);
        }
    }

    private static void resaltTellsForHowMany() {
        about("6: Returns for how many persons it changes whether they eat it");
        due("at the share 0", withBread(0, false, 0).resalt(0, 9999), 0);
        due("at the share 100", withBread(0, false, 100).resalt(0, 9999), 0);
        SaltShares held = withBread(0, false, 50);
        for (int person = 0; person < 150; person++) {
            held.hold(person, 0, person % 2 == 0);
        }
        due("all are held", held.resalt(0, 9999), 0);
        SaltShares sticky = withBread(0, true, 50);
        sticky.pass(1);
        int more = 0;
        for (int person = 0; person < 150; person++) {
            more += bucketOf(person, 0) >= 50 && bucketOf(person, 9999) < 50 ? 1 : 0;
        }
        due("those who ate it stay", sticky.resalt(0, 9999), more);
    }

    private static void resaltRefuses() {
        about("6: no such bread; it has ended, or is in a group");
        refusesNoBreads("resalt", (x, bread) -> x.resalt(bread, 0));
        refusesNoBreads("resalt out of range", (x, bread) -> x.resalt(bread, -1));
        refused(Checks::busyTown, "resalt of one of a group", STATE, x -> x.resalt(0, 0));
        refused(Checks::busyTown, "resalt of one of a group to its salt", STATE, x -> x.resalt(1, 11));
        refused(Checks::busyTown, "resalt of an ended one of a group", STATE, x -> x.resalt(4, 0));
        refused(Checks::busyTown, "resalt of an ended one of a group out of range", ARGUMENT, x -> x.resalt(4, -1));
        refused(Checks::busyTown, "resalt of one of a group out of range", ARGUMENT, x -> x.resalt(0, 10000));
        SaltShares x = withBread(7, false, 0);
        x.end(0);
        fails(x, "resalt of an ended one of no group", STATE, () -> x.resalt(0, 0));
        fails(x, "resalt of an ended one to its salt", STATE, () -> x.resalt(0, 7));
        for (int group = 0; group < 3; group++) {
            SaltShares y = new SaltShares();
            y.open(group, 0, false);
            fails(y, "resalt of one of group " + group, STATE, () -> y.resalt(0, 5));
        }
    }

    // ---- Promise 7

    private static void shakeAGroup() {
        about("7: group is 0 to 2; no such group");
        for (int group : new int[] {MIN, -2, -1, 3, 4, MAX}) {
            refused(Checks::busyTown, "shake(" + group + ")", INDEX, x -> x.shake(group, 0));
            refused(Checks::busyTown, "shake(" + group + ") out of range", INDEX, x -> x.shake(group, 10000));
        }
        SaltShares x = new SaltShares();
        for (int group = 0; group < 3; group++) {
            due("shake a group without breads", x.shake(group, 100 + group), 11 + 11 * group);
        }
        for (int group = 0; group < 3; group++) {
            due("each has its own", x.count(10 + group), 100 + group);
        }
    }

    private static void shakeToASalt() {
        about("7: salt is 0 to 9999; returns the previous salt");
        for (int salt : SALTS_OUT_OF_RANGE) {
            refused(Checks::busyTown, "shake to " + salt, ARGUMENT, x -> x.shake(0, salt));
        }
        SaltShares x = town();
        due("to the least", x.shake(0, 0), 11);
        due("to the greatest", x.shake(0, 9999), 0);
        due("to the same", x.shake(0, 9999), 9999);
        due("the salt of a bread", x.bread(0, 2), 9999);
        due("the salt of one that opens then", x.bread(x.open(0, 5, false), 2), 9999);
        due("not that of one in no group", x.bread(2, 2), 42);
        due("undo of the open", x.undo(), 5);
        due("undo of the third", x.undo(), 4);
        due("the salt is the same", x.count(10), 9999);
        due("undo of the second", x.undo(), 3);
        due("salt", x.count(10), 0);
        due("undo of the first", x.undo(), 2);
        due("salt", x.count(10), 11);
    }

    private static void shakeChangesWhoEats() {
        about("7: Changes the salt of a group");
        SaltShares x = busyTown();
        x.shake(0, 9999);
        int sure = 0;
        for (int person = 0; person < 150; person++) {
            due("bucket", x.bucket(person, 0), bucketOf(person, 9999));
            boolean isSticky = bucketOf(person, 11) >= 20 && bucketOf(person, 11) < 50;
            boolean owns = bucketOf(person, 9999) >= 20 && bucketOf(person, 9999) < 50;
            due("eats(" + person + ", 1)", x.eats(person, 1), owns ? 3 : isSticky ? 2 : 0);
            sure += owns || isSticky ? 1 : 0;
        }
        due("eaters of the sticky one", x.bread(1, 5), sure);
        due("the owners stay", x.bread(1, 10) * 100 + x.bread(1, 11), 2049);
    }

    public static void main(String[] args) {
        aNewObject();
        openInAGroup();
        openWithASalt();
        openWithTheShare0();
        openANinth();
        openAnewAfterUndo();
        endTellsHowManyAteIt();
        endKeepsHolds();
        endRefuses();
        endIsUndone();
        raiseToAShare();
        raiseTellsHowManyMore();
        raiseRefuses();
        raiseInAFullGroup();
        raiseByTheLastOne();
        lowerToAShare();
        lowerTellsHowManyLess();
        lowerRefuses();
        resaltToASalt();
        resaltTellsForHowMany();
        resaltRefuses();
        shakeAGroup();
        shakeToASalt();
        shakeChangesWhoEats();
        close("BreadsBoundaryTest");
    }
}
