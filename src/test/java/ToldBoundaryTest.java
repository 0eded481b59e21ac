/** Promises 16 to 21, a test for each sentence of them that names a boundary: too small, too large, none, all. */
public final class ToldBoundaryTest extends Checks {
    // ---- Promise 16

    private static void eatsTellsWhy() {
        about("16: 0 if not; 1 held in; 2 as the bread is sticky, and its bucket is not the reason; 3 by the bucket");
        SaltShares x = withBread(0, true, 1);
        due("by the bucket, not eaten before", x.eats(0, 0), 3);
        due("not", x.eats(106, 0), 0);
        x.hold(106, 0, true);
        x.pass(1);
        due("by the bucket, though it was eaten before", x.eats(0, 0), 3);
        due("held in, though it was eaten before", x.eats(106, 0), 1);
        x.letGo(106, 0);
        due("as it is sticky", x.eats(106, 0), 2);
        x.raise(0, 100);
        due("by the bucket rather", x.eats(106, 0), 3);
        x.hold(106, 0, true);
        due("held in rather", x.eats(106, 0), 1);
        x.hold(106, 0, false);
        due("held out", x.eats(106, 0), 0);
        x.hold(106, 0, true);
        x.end(0);
        due("held in for an ended one", x.eats(106, 0), 0);
        due("by the bucket of an ended one", x.eats(0, 0), 0);
        SaltShares y = withBread(0, false, 1);
        y.pass(1);
        due("by the bucket of one that is not sticky", y.eats(0, 0), 3);
        y.lower(0, 0);
        due("not sticky", y.eats(0, 0), 0);
    }

    private static void eatsRefuses() {
        about("16: no such person or bread");
        refusesNoBreads("eats", (x, bread) -> x.eats(0, bread));
        refusesNoBreads("eats of nobody", (x, bread) -> x.eats(150, bread));
        refusesFarPersons("eats", (x, person) -> x.eats(person, 0));
        onlyTells(Checks::busyTown, "eats(149, 4)", 0, x -> x.eats(149, 4));
        onlyTells(Checks::busyTown, "eats(5, 0)", 1, x -> x.eats(5, 0));
    }

    // ---- Promise 17

    private static void bucketBySalt() {
        about("17: Returns the bucket, by the salt of the bread or of its group");
        SaltShares x = busyTown();
        x.shake(0, 9999);
        x.shake(1, 0);
        for (int person = 0; person < 150; person++) {
            due("of a bread of a group", x.bucket(person, 1), bucketOf(person, 9999));
            due("of an ended one", x.bucket(person, 4), bucketOf(person, 0));
            due("of one in no group", x.bucket(person, 2), bucketOf(person, 42));
        }
        x.undo();
        x.undo();
        due("after undo", x.bucket(149, 1), bucketOf(149, 11));
        due("of one that is held", x.bucket(5, 0), bucketOf(5, 11));
    }

    private static void bucketRefuses() {
        about("17: no such person or bread");
        refusesNoBreads("bucket", (x, bread) -> x.bucket(149, bread));
        refusesFarPersons("bucket", (x, person) -> x.bucket(person, 3));
        onlyTells(Checks::busyTown, "bucket(149, 3)", 73, x -> x.bucket(149, 3));
        onlyTells(Checks::busyTown, "bucket(0, 0)", 47, x -> x.bucket(0, 0));
    }

    // ---- Promise 18

    private static void breadProperties() {
        about("18: properties 0 to 11");
        int[] ofTheSecond = {1, 0, 11, 30, 1, personsWithin(11, 20, 49), personsWithin(11, 20, 49),
            3 * personsWithin(11, 20, 49), 0, 0, 20, 49};
        int[] ofTheEnded = {0, 1, 22, 0, 1, 0, 149, 2 * 149, 1, 1, -1, -1};
        int[] ofTheLast = {1, -1, 42, 10, 0, personsWithin(42, 0, 9), personsWithin(42, 0, 9),
            3 * personsWithin(42, 0, 9), 0, 0, 0, 9};
        for (int what = 0; what <= 11; what++) {
            int which = what;
            onlyTells(Checks::busyTown, "bread(1, " + what + ")", ofTheSecond[what], x -> x.bread(1, which));
            onlyTells(Checks::busyTown, "bread(4, " + what + ")", ofTheEnded[what], x -> x.bread(4, which));
            onlyTells(Checks::busyTown, "bread(3, " + what + ")", ofTheLast[what], x -> x.bread(3, which));
        }
        for (int what : new int[] {MIN, -1, 12, 13, MAX}) {
            refused(Checks::busyTown, "bread(0, " + what + ")", ARGUMENT, x -> x.bread(0, what));
            refused(Checks::busyTown, "bread(4, " + what + ")", ARGUMENT, x -> x.bread(4, what));
            refused(Checks::busyTown, "bread(5, " + what + ")", INDEX, x -> x.bread(5, what));
        }
        refusesNoBreads("bread(.., 0)", (x, bread) -> x.bread(bread, 0));
        refusesNoBreads("bread(.., 11)", (x, bread) -> x.bread(bread, 11));
    }

    private static void breadOfAll() {
        about("18: persons who eat it, ate it, are held in or out for it: none, and all");
        SaltShares x = withBread(0, false, 0);
        for (int what = 5; what <= 9; what++) {
            due("none: bread(0, " + what + ")", x.bread(0, what), 0);
        }
        for (int person = 0; person < 150; person++) {
            x.hold(person, 0, true);
        }
        x.pass(1);
        int[] want = {150, 150, 150, 150, 0};
        for (int what = 5; what <= 9; what++) {
            due("all: bread(0, " + what + ")", x.bread(0, what), want[what - 5]);
        }
        for (int person = 0; person < 150; person++) {
            x.hold(person, 0, false);
        }
        int[] then = {0, 150, 150, 0, 150};
        for (int what = 5; what <= 9; what++) {
            due("all out: bread(0, " + what + ")", x.bread(0, what), then[what - 5]);
        }
    }

    private static void lowestAndHighest() {
        about("18: 10: the lowest bucket that it owns, NONE without one; 11: the highest one, likewise");
        for (int bread = 0; bread <= 2; bread += 2) {
            SaltShares x = town();
            due("lowest without one", x.bread(bread, 10), -1);
            due("highest without one", x.bread(bread, 11), -1);
            x.raise(bread, 1);
            due("lowest of one", x.bread(bread, 10), 0);
            due("highest of one", x.bread(bread, 11), 0);
            x.raise(bread, 100);
            due("lowest of all", x.bread(bread, 10), 0);
            due("highest of all", x.bread(bread, 11), 99);
            x.lower(bread, 0);
            due("lowest of none", x.bread(bread, 10), -1);
            due("highest of none", x.bread(bread, 11), -1);
        }
        SaltShares x = town();
        x.raise(0, 99);
        x.raise(1, 1);
        due("lowest of the last one", x.bread(1, 10), 99);
        due("highest of the last one", x.bread(1, 11), 99);
    }

    // ---- Promise 19

    private static void personProperties() {
        about("19: properties 0 to 4, as bit masks of 8 breads");
        SaltShares x = new SaltShares();
        for (int bread = 0; bread < 8; bread++) {
            x.open(-1, bread, false);
        }
        for (int bread = 0; bread < 8; bread++) {
            x.hold(149, bread, true);
            x.hold(0, bread, false);
            int mask = (2 << bread) - 1;
            due("eaten", x.person(149, 0), mask);
            due("held in", x.person(149, 2), mask);
            due("held out", x.person(0, 3), mask);
        }
        x.pass(1);
        int[] ofTheLast = {255, 255, 255, 0, 8};
        int[] ofTheFirst = {0, 0, 0, 255, 0};
        for (int what = 0; what <= 4; what++) {
            due("person(149, " + what + ")", x.person(149, what), ofTheLast[what]);
            due("person(0, " + what + ")", x.person(0, what), ofTheFirst[what]);
        }
        x.end(7);
        int[] then = {127, 255, 255, 0, 8};
        for (int what = 0; what <= 4; what++) {
            due("when one has ended: person(149, " + what + ")", x.person(149, what), then[what]);
        }
    }

    private static void personRefuses() {
        about("19: no such person; what is not 0 to 4");
        for (int what : new int[] {MIN, -1, 5, 6, MAX}) {
            refused(Checks::busyTown, "person(0, " + what + ")", ARGUMENT, x -> x.person(0, what));
            refused(Checks::busyTown, "person(149, " + what + ")", ARGUMENT, x -> x.person(149, what));
        }
        refusesFarPersons("person(.., 0)", (x, person) -> x.person(person, 0));
        refusesFarPersons("person(.., 4)", (x, person) -> x.person(person, 4));
        refusesFarPersons("person(.., 5)", (x, person) -> x.person(person, 5));
        refusesFarPersons("person(.., -1)", (x, person) -> x.person(person, -1));
        onlyTells(Checks::busyTown, "person(149, 2)", 16, x -> x.person(149, 2));
        onlyTells(Checks::busyTown, "person(6, 3)", 1, x -> x.person(6, 3));
    }

    // ---- Promise 20

    private static void ownerOfABucket() {
        about("20: Returns the bread that owns it; NONE if none does");
        int[][] rows = {{0, 0, 0}, {0, 19, 0}, {0, 20, 1}, {0, 49, 1}, {0, 50, 0}, {0, 54, 0}, {0, 55, -1}, {0, 99, -1},
            {1, 0, -1}, {1, 99, -1}, {2, 0, -1}, {2, 99, -1}};
        for (int[] row : rows) {
            onlyTells(Checks::busyTown, "owner(" + row[0] + ", " + row[1] + ")", row[2], x -> x.owner(row[0], row[1]));
        }
        SaltShares x = new SaltShares();
        for (int bread = 0; bread < 8; bread++) {
            x.open(bread % 3, 0, false);
        }
        x.raise(7, 100);
        x.raise(2, 100);
        due("the first of a group", x.owner(1, 0), 7);
        due("the last of a group", x.owner(1, 99), 7);
        due("the last of the last group", x.owner(2, 99), 2);
        due("of a group without shares", x.owner(0, 99), -1);
    }

    private static void ownerRefuses() {
        about("20: no such group or bucket");
        for (int bucket : new int[] {MIN, -100, -1, 100, 101, 199, 200, MAX}) {
            for (int group = 0; group < 3; group++) {
                int its = group;
                refused(Checks::busyTown, "owner(" + group + ", " + bucket + ")", INDEX, x -> x.owner(its, bucket));
            }
        }
        for (int group : new int[] {MIN, -2, -1, 3, 4, MAX}) {
            refused(Checks::busyTown, "owner(" + group + ", 0)", INDEX, x -> x.owner(group, 0));
            refused(Checks::busyTown, "owner(" + group + ", 100)", INDEX, x -> x.owner(group, 100));
        }
    }

    // ---- Promise 21

    private static void countRefuses() {
        about("21: Throws IllegalArgumentException if what is not 0 to 8, 10 to 12 or 20 to 22");
        for (int what = -2; what <= 40; what++) {
            int which = what;
            if (what < 0 || what == 9 || what >= 13 && what <= 19 || what >= 23) {
                refused(Checks::busyTown, "count(" + what + ")", ARGUMENT, x -> x.count(which));
            }
        }
        refused(Checks::busyTown, "count of the least", ARGUMENT, x -> x.count(MIN));
        refused(Checks::busyTown, "count of the greatest", ARGUMENT, x -> x.count(MAX));
    }

    private static void countInABusyTown() {
        about("21: Returns a number");
        SaltShares x = busyTown();
        int eat = 0;
        int ate = 0;
        for (int person = 0; person < 150; person++) {
            eat += x.person(person, 0) != 0 ? 1 : 0;
            ate += x.person(person, 1) != 0 ? 1 : 0;
        }
        int servings = x.bread(0, 7) + x.bread(1, 7) + x.bread(2, 7) + x.bread(3, 7) + x.bread(4, 7);
        int[] want = {5, 4, 3, servings, eat, ate, 0, 4, 6, -1, 11, 22, 33, -1, -1, -1, -1, -1, -1, -1, 45, 100, 100};
        for (int what = 0; what <= 22; what++) {
            int which = what;
            if (want[what] >= 0) {
                onlyTells(Checks::busyTown, "count(" + what + ")", want[what], y -> y.count(which));
            }
        }
        holds("not all eat", eat < 150 && eat > 0);
        due("all but one ate the one that has ended", ate >= 149 ? 1 : 0, 1);
    }

    private static void countThoseWhoEatAndAte() {
        about("21: 4: persons who eat some bread; 5: persons who ate some bread so far");
        SaltShares x = town();
        due("nobody eats", x.count(4), 0);
        due("nobody ate", x.count(5), 0);
        x.hold(149, 0, true);
        x.hold(149, 3, true);
        x.hold(0, 2, true);
        due("two eat", x.count(4), 2);
        due("nobody ate yet", x.count(5), 0);
        x.pass(1);
        x.end(0);
        x.end(3);
        due("one eats", x.count(4), 1);
        due("two ate", x.count(5), 2);
        x.raise(1, 100);
        due("all eat", x.count(4), 150);
        due("two ate", x.count(5), 2);
        x.pass(1);
        due("all ate", x.count(5), 150);
    }

    private static void countThoseWhoEatTwoOfAGroup() {
        about("21: 6: persons who eat two or more breads of one group");
        for (int group = 0; group < 3; group++) {
            SaltShares x = new SaltShares();
            x.open(group, 0, false);
            x.open((group + 1) % 3, 0, false);
            x.open(-1, 0, false);
            x.open(-1, 0, false);
            x.open(group, 0, false);
            x.open(group, 0, false);
            x.hold(7, 0, true);
            x.hold(7, 1, true);
            x.hold(7, 2, true);
            x.hold(7, 3, true);
            due("of two groups and of none", x.count(6), 0);
            x.hold(7, 4, true);
            due("two of one", x.count(6), 1);
            x.hold(7, 5, true);
            due("three of one", x.count(6), 1);
            x.hold(149, 4, true);
            x.hold(149, 5, true);
            due("two persons", x.count(6), 2);
            x.end(5);
            due("one has ended", x.count(6), 1);
            x.hold(7, 4, false);
            due("held out", x.count(6), 0);
            x.hold(0, 0, true);
            x.hold(0, 4, true);
            due("the first person", x.count(6), 1);
            x.raise(0, 100);
            due("by bucket and hold", x.count(6), 2);
        }
    }

    private static void countHoldsAndStates() {
        about("21: 7: holds; 8: saved states");
        SaltShares x = town();
        for (int bread = 4; bread < 8; bread++) {
            x.open(-1, 0, false);
        }
        for (int person = 0; person < 150; person++) {
            for (int bread = 0; bread < 8; bread++) {
                x.hold(person, bread, (person + bread) % 2 == 0);
            }
        }
        due("all that there can be", x.count(7), 1200);
        due("states", x.count(8), 6);
        for (int bread = 0; bread < 8; bread++) {
            x.end(bread);
        }
        due("for ended ones", x.count(7), 1200);
        x.letGo(149, 7);
        due("one less", x.count(7), 1199);
    }

    private static void countFreeBuckets() {
        about("21: 20 to 22: buckets of the groups 0 to 2 that no bread owns");
        SaltShares x = new SaltShares();
        for (int group = 0; group < 3; group++) {
            x.open(group, 0, false);
            x.open(-1, 0, false);
            x.raise(2 * group + 1, 50);
            due("all", x.count(20 + group), 100);
            x.raise(2 * group, 99);
            due("one", x.count(20 + group), 1);
            x.raise(2 * group, 100);
            due("none", x.count(20 + group), 0);
        }
        x.end(4);
        due("all of the last again", x.count(22), 100);
        due("none of the first", x.count(20), 0);
    }

    public static void main(String[] args) {
        eatsTellsWhy();
        eatsRefuses();
        bucketBySalt();
        bucketRefuses();
        breadProperties();
        breadOfAll();
        lowestAndHighest();
        personProperties();
        personRefuses();
        ownerOfABucket();
        ownerRefuses();
        countRefuses();
        countInABusyTown();
        countThoseWhoEatAndAte();
        countThoseWhoEatTwoOfAGroup();
        countHoldsAndStates();
        countFreeBuckets();
        close("ToldBoundaryTest");
    }
}
