/**
 * What the tests have in common: checks that print what is not as due, towns to begin with, and the buckets worked
 * out apart from the class. A test extends it, as a class without a package cannot be imported from.
 */
abstract class Checks {
    static final int MIN = Integer.MIN_VALUE;
    static final int MAX = Integer.MAX_VALUE;
    static final Class<?> INDEX = IndexOutOfBoundsException.class;
    static final Class<?> ARGUMENT = IllegalArgumentException.class;
    static final Class<?> STATE = IllegalStateException.class;
    /** Numbers of no person. */
    static final int[] FAR = {MIN, -2, -1, 150, 151, MAX};
    static final int[] SALTS_OUT_OF_RANGE = {MIN, -1, 10000, 10001, MAX};
    static final int[] SHARES_OUT_OF_RANGE = {MIN, -1, 101, 102, MAX};
    /** Breads that there are not in busyTown. */
    static final int[] NO_BREADS = {MIN, -1, 5, 7, 8, MAX};

    private static int wrong = 0;
    private static String sentence = "";

    interface Call {
        long get();
    }

    /** A call on an object that is handed to it, so that it can be made on several ones. */
    interface CallOn {
        long on(SaltShares x);
    }

    interface Maker {
        SaltShares make();
    }

    /** The sentence of the document that the next checks are about. */
    static void about(String itsSentence) {
        sentence = itsSentence;
    }

    static void wrong(String text) {
        wrong++;
        System.out.println(sentence + ": " + text);
    }

    static void due(String what, long got, long want) {
        if (got != want) {
            wrong(what + " answered " + got + ", due is " + want);
        }
    }

    static void holds(String what, boolean isSo) {
        if (!isSo) {
            wrong(what);
        }
    }

    /** What the call throws; null if nothing. The class itself counts, not one below it. */
    private static Class<?> thrownBy(Call call) {
        try {
            call.get();
            return null;
        } catch (RuntimeException e) {
            return e.getClass();
        }
    }

    /** The call throws just that exception, and changes nothing. */
    static void fails(SaltShares x, String what, Class<?> due, Call call) {
        long before = x.digest();
        Class<?> thrown = thrownBy(call);
        holds(what + " threw " + thrown + ", due is " + due, thrown == due);
        due("digest after " + what, x.digest(), before);
    }

    /** The call throws just that exception, and changes nothing, the saved states and the buffer neither. */
    static void refused(Maker maker, String what, Class<?> due, CallOn call) {
        SaltShares x = maker.make();
        Class<?> thrown = thrownBy(() -> call.on(x));
        holds(what + " threw " + thrown + ", due is " + due, thrown == due);
        sameAll(what, x, maker.make());
    }

    /** A call that takes the number of a bread or of a person. */
    interface CallWith {
        long on(SaltShares x, int number);
    }

    static void refusesNoBreads(String what, CallWith call) {
        for (int bread : NO_BREADS) {
            refused(Checks::busyTown, what + " of bread " + bread, INDEX, x -> call.on(x, bread));
        }
        refused(SaltShares::new, what + " of bread 0 of a new object", INDEX, x -> call.on(x, 0));
        refused(Checks::town, what + " of bread 4 of 4", INDEX, x -> call.on(x, 4));
    }

    static void refusesFarPersons(String what, CallWith call) {
        for (int person : FAR) {
            refused(Checks::busyTown, what + " of person " + person, INDEX, x -> call.on(x, person));
        }
    }

    /** The call answers that, and changes nothing at all. */
    static void onlyTells(Maker maker, String what, long want, CallOn call) {
        SaltShares x = maker.make();
        due(what, call.on(x), want);
        sameAll(what, x, maker.make());
    }

    /** Both are the same, and so are all their saved states, which are used up by this. */
    private static void sameAll(String what, SaltShares x, SaltShares y) {
        due("digest after " + what, x.digest(), y.digest());
        due("saved states after " + what, x.count(8), y.count(8));
        for (int left = y.count(8); left > 0; left--) {
            x.undo();
            y.undo();
            due("digest after " + what + " and undo to " + (left - 1), x.digest(), y.digest());
        }
    }

    /** The call saves one state, drops the oldest one of six, and undo brings everything back but the buffer. */
    static void undoable(Maker maker, String what, long want, CallOn call) {
        SaltShares x = maker.make();
        SaltShares y = maker.make();
        int saved = y.count(8);
        due(what, call.on(x), want);
        due("saved states after " + what, x.count(8), Math.min(saved + 1, 6));
        due("undo of " + what, x.undo(), Math.min(saved, 5));
        x.clearBuffer();
        y.clearBuffer();
        if (saved < 6) {
            sameAll(what + " and undo", x, y);
        } else {
            sameButSaved(what + " and undo", x, y);
        }
    }

    /** The same but for the oldest saved state, which one of them has no more. */
    private static void sameButSaved(String what, SaltShares x, SaltShares y) {
        due("what is told after " + what, toldBy(x), toldBy(y));
        for (int left = 4; left >= 0; left--) {
            due("undo after " + what, x.undo(), left);
            y.undo();
            due("what is told after " + what + " and undo to " + left, toldBy(x), toldBy(y));
        }
    }

    /** A hash of what is told of breads, persons, groups and days, without the number of saved states. */
    static long toldBy(SaltShares x) {
        long hash = 7;
        for (int what : new int[] {0, 1, 2, 3, 4, 5, 6, 7, 10, 11, 12, 20, 21, 22}) {
            hash = 31 * hash + x.count(what);
        }
        for (int bread = 0; bread < x.count(0); bread++) {
            for (int what = 0; what <= 11; what++) {
                hash = 31 * hash + x.bread(bread, what);
            }
        }
        for (int person = 0; person < 150; person++) {
            for (int what = 0; what <= 4; what++) {
                hash = 31 * hash + x.person(person, what);
            }
        }
        for (int i = 0; i < 300; i++) {
            hash = 31 * hash + x.owner(i / 100, i % 100);
        }
        return hash;
    }

    /** The bucket, worked out with longs. */
    static int bucketOf(long person, long salt) {
        long mask = (1L << 32) - 1;
        long x = person * -1640531535L + salt * 40503L & mask;
        x = (x ^ x >> 15) * -2048144777L & mask;
        x = (x ^ x >> 13) * -1028477379L & mask;
        x = x ^ x >> 16;
        return (int) ((x & mask >> 1) % 100);
    }

    /** How many persons have a bucket from least to most. */
    static int personsWithin(int salt, int least, int most) {
        int many = 0;
        for (int person = 0; person < 150; person++) {
            int bucket = bucketOf(person, salt);
            many += bucket >= least && bucket <= most ? 1 : 0;
        }
        return many;
    }

    /** The first person whose bucket it is; NONE if it is nobody's. */
    static int firstOf(int salt, int bucket) {
        for (int person = 0; person < 150; person++) {
            if (bucketOf(person, salt) == bucket) {
                return person;
            }
        }
        return -1;
    }

    static void type(SaltShares x, String text) {
        for (int i = 0; i < text.length(); i++) {
            x.append(text.charAt(i));
        }
    }

    static int ran(SaltShares x, String text) {
        type(x, text);
        return x.run();
    }

    /** A town with the breads 0 and 1 of group 0, the second one sticky, and 2 (sticky) and 3 of none, salts 42. */
    static SaltShares town() {
        SaltShares x = new SaltShares();
        x.open(0, 1, false);
        x.open(0, 2, true);
        x.open(-1, 42, true);
        x.open(-1, 42, false);
        return x;
    }

    /** A town with one open bread, of no group, with that salt and share. */
    static SaltShares withBread(int salt, boolean isSticky, int share) {
        SaltShares x = new SaltShares();
        x.open(-1, salt, isSticky);
        x.raise(0, share);
        return x;
    }

    /**
     * A town in which there is some of all: shares with a gap, holds, days that have passed, a bread that has ended
     * (4, of group 1), six saved states that differ, and a text that has begun.
     */
    static SaltShares busyTown() {
        SaltShares x = town();
        x.open(1, 0, true);
        x.raise(0, 20);
        x.raise(1, 30);
        x.raise(2, 60);
        x.raise(3, 10);
        x.raise(4, 100);
        x.hold(149, 4, true);
        x.hold(148, 4, false);
        x.pass(2);
        x.end(4);
        x.hold(5, 0, true);
        x.hold(6, 0, false);
        x.pass(1);
        x.raise(0, 25);
        type(x, "d1;x");
        return x;
    }

    /** Prints how it went, and ends the program with 1 if something was not as due. */
    static void close(String what) {
        System.out.println(wrong == 0 ? what + ": all as due" : what + ": " + wrong + " answers are not as due");
        if (wrong != 0) {
            System.exit(1);
        }
    }
}
