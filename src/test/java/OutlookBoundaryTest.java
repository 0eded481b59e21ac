/** Promises 22 to 28, a test for each sentence of them that names a boundary: too small, too large, none, all. */
public final class OutlookBoundaryTest extends Checks {
    // ---- Promise 22

    private static void overlapOfTwo() {
        about("22: Returns how many persons eat both");
        SaltShares x = busyTown();
        for (int a = 0; a < 5; a++) {
            for (int b = 0; b < 5; b++) {
                int both = 0;
                for (int person = 0; person < 150; person++) {
                    both += x.eats(person, a) != 0 && x.eats(person, b) != 0 ? 1 : 0;
                }
                due("overlap(" + a + ", " + b + ")", x.overlap(a, b), both);
            }
            due("of one with itself", x.overlap(a, a), x.bread(a, 5));
        }
        x.raise(2, 100);
        x.raise(3, 100);
        due("all", x.overlap(2, 3), 150);
        x.end(3);
        due("of one that has ended", x.overlap(2, 3) + x.overlap(3, 2) + x.overlap(3, 3), 0);
        due("of two of a group", x.overlap(0, 1), 0);
        x.hold(5, 1, true);
        due("of two of a group for which one is held in", x.overlap(0, 1), 1);
    }

    private static void overlapRefuses() {
        about("22: no such bread");
        refusesNoBreads("overlap with bread 0", (x, bread) -> x.overlap(bread, 0));
        refusesNoBreads("overlap of bread 0", (x, bread) -> x.overlap(0, bread));
        refusesNoBreads("overlap with itself", (x, bread) -> x.overlap(bread, bread));
        onlyTells(Checks::busyTown, "overlap(4, 3)", 0, x -> x.overlap(4, 3));
    }

    // ---- Promise 23

    private static void ifShareIsWhatWouldBe() {
        about("23: Returns how many persons would eat it, if it was raised or lowered to that; NONE if not possible");
        for (int bread = 0; bread < 4; bread++) {
            int its = bread;
            for (int share = 0; share <= 100; share++) {
                int to = share;
                onlyTells(Checks::busyTown, "ifShare(" + bread + ", " + share + ")", afterwards(bread, share),
                        x -> x.ifShare(its, to));
            }
        }
        SaltShares x = busyTown();
        due("as far as it goes", x.ifShare(0, 70) >= 0 ? 1 : 0, 1);
        due("one more", x.ifShare(0, 71), -1);
        due("as far as the other goes", x.ifShare(1, 75) >= 0 ? 1 : 0, 1);
        due("one more", x.ifShare(1, 76), -1);
        due("of none to none", town().ifShare(0, 0), 0);
        due("of none to all", town().ifShare(0, 100), 150);
        for (int share : new int[] {0, 1, 100}) {
            due("of an ended one", x.ifShare(4, share), -1);
        }
    }

    /** How many eat it when it was really raised or lowered; NONE if that throws. */
    private static int afterwards(int bread, int share) {
        SaltShares x = busyTown();
        try {
            if (share >= x.bread(bread, 3)) {
                x.raise(bread, share);
            } else {
                x.lower(bread, share);
            }
            return x.bread(bread, 5);
        } catch (IllegalStateException e) {
            return -1;
        }
    }

    private static void ifShareWithHoldsAndSticking() {
        about("23: how many persons would eat it: who is held in does, who is held out does not, though it is sticky");
        SaltShares x = withBread(0, true, 100);
        x.pass(1);
        due("all ate it", x.ifShare(0, 0), 150);
        x.hold(0, 0, false);
        x.hold(149, 0, true);
        due("one is held out", x.ifShare(0, 0), 149);
        due("one is held out", x.ifShare(0, 100), 149);
        due("all but one", x.shareFor(0, 149), 0);
        due("all", x.shareFor(0, 150), -1);
        due("nobody is left", x.nextEater(0), -1);
        x.letGo(0, 0);
        due("not any more", x.ifShare(0, 0), 150);
    }

    private static void outlookInEachGroup() {
        about("23, 24, 26: a bread of a group gets the lowest buckets that no bread of the group owns");
        for (int group = 0; group < 3; group++) {
            int salt = 11 + 11 * group;
            SaltShares x = new SaltShares();
            x.open(group, 0, false);
            x.open((group + 1) % 3, 0, false);
            x.open(group, 0, false);
            x.raise(0, 30);
            x.raise(1, 99);
            due("another group has none left", x.ifShare(1, 100), 150);
            due("not possible", x.ifShare(2, 71), -1);
            due("all that are left", x.ifShare(2, 70), personsWithin(salt, 30, 99));
            due("some of them", x.ifShare(2, 10), personsWithin(salt, 30, 39));
            due("so many as are left", x.shareFor(2, personsWithin(salt, 30, 99)) > 0 ? 1 : 0, 1);
            due("one more than are left", x.shareFor(2, personsWithin(salt, 30, 99) + 1), -1);
            int bucket = 30;
            while (firstOf(salt, bucket) < 0) {
                bucket++;
            }
            due("who comes next", x.nextEater(2), firstOf(salt, bucket));
            due("the share for one", x.shareFor(2, 1), bucket - 29);
        }
    }

    private static void ifShareRefuses() {
        about("23: no such bread; share is out of range");
        refusesNoBreads("ifShare", (x, bread) -> x.ifShare(bread, 0));
        refusesNoBreads("ifShare out of range", (x, bread) -> x.ifShare(bread, 101));
        for (int share : SHARES_OUT_OF_RANGE) {
            refused(Checks::busyTown, "ifShare to " + share, ARGUMENT, x -> x.ifShare(0, share));
            refused(Checks::busyTown, "ifShare of an ended one to " + share, ARGUMENT, x -> x.ifShare(4, share));
        }
    }

    // ---- Promise 24

    private static void shareForIsTheLeast() {
        about("24: the least share, 0 to 100, so that at least so many would eat it; NONE if there is none");
        for (int bread = 0; bread < 4; bread++) {
            SaltShares x = busyTown();
            for (int many = 0; many <= 150; many++) {
                int least = 0;
                while (least <= 100 && x.ifShare(bread, least) < many) {
                    least++;
                }
                due("shareFor(" + bread + ", " + many + ")", x.shareFor(bread, many), least > 100 ? -1 : least);
            }
        }
        onlyTells(Checks::busyTown, "shareFor of an ended one", -1, x -> x.shareFor(4, 0));
        onlyTells(Checks::busyTown, "shareFor of an ended one", -1, x -> x.shareFor(4, 150));
    }

    private static void shareForNobodyAndForAll() {
        about("24: many is 0 to 150");
        SaltShares x = town();
        x.raise(2, 100);
        due("nobody, at the share 0", x.shareFor(0, 0), 0);
        due("nobody, at the share 100", x.shareFor(2, 0), 0);
        int least = 1;
        while (personsWithin(42, 0, least - 1) < 150) {
            least++;
        }
        due("all, at the share 0", x.shareFor(3, 150), least);
        due("all, at the share 100", x.shareFor(2, 150), least);
        SaltShares last = withBread(0, false, 0);
        due("all, where somebody has the last bucket", last.shareFor(0, 150), 100);
        last.hold(106, 0, true);
        last.hold(115, 0, true);
        due("all, where these are held in", last.shareFor(0, 150), 99);
        last.hold(0, 0, false);
        due("all, where one is held out", last.shareFor(0, 150), -1);
        due("all but one", last.shareFor(0, 149), 99);
        SaltShares sticky = withBread(0, true, 100);
        sticky.pass(1);
        due("all ate it", sticky.shareFor(0, 150), 0);
    }

    private static void shareForInAFullGroup() {
        about("24: to which it could be raised or lowered (or that it has)");
        SaltShares x = town();
        x.raise(0, 60);
        x.raise(1, 40);
        int its = personsWithin(11, 60, 99);
        holds("somebody has the last bucket", personsWithin(11, 99, 99) > 0);
        due("the share that it has", x.shareFor(1, its), 40);
        due("one eater more", x.shareFor(1, its + 1), -1);
        due("one eater less", x.shareFor(1, its - personsWithin(11, 99, 99)), leastFrom(60, its));
        due("nobody", x.shareFor(1, 0), 0);
        x.raise(0, 60);
        x.end(0);
        int more = 0;
        while (personsWithin(11, 0, more - 1) == 0) {
            more++;
        }
        due("one eater more when the other has ended", x.shareFor(1, its + 1), 40 + more);
    }

    /** The least share from that bucket on at which only those of the last bucket are missing. */
    private static int leastFrom(int first, int all) {
        int share = 0;
        while (personsWithin(11, first, first + share - 1) < all - personsWithin(11, 99, 99)) {
            share++;
        }
        return share;
    }

    private static void shareForRefuses() {
        about("24: no such bread; many is out of range");
        refusesNoBreads("shareFor", (x, bread) -> x.shareFor(bread, 0));
        refusesNoBreads("shareFor out of range", (x, bread) -> x.shareFor(bread, 151));
        for (int many : new int[] {MIN, -1, 151, 152, MAX}) {
            refused(Checks::busyTown, "shareFor " + many, ARGUMENT, x -> x.shareFor(0, many));
            refused(Checks::busyTown, "shareFor " + many + " of an ended one", ARGUMENT, x -> x.shareFor(4, many));
        }
    }

    // ---- Promise 25

    private static int bestOf(int share, int from, int to) {
        int best = from;
        for (int salt = from; salt <= to; salt++) {
            best = personsWithin(salt, 0, share - 1) > personsWithin(best, 0, share - 1) ? salt : best;
        }
        return best;
    }

    private static void bestSaltOfTwenty() {
        about("25: of the salts from, from + 1, up to from + 19");
        SaltShares x = withBread(5, false, 30);
        boolean hasLast = false;
        boolean hasNext = false;
        boolean hasFirst = false;
        for (int from = 0; from < 400; from++) {
            int best = bestOf(30, from, from + 19);
            due("bestSalt from " + from, x.bestSalt(0, from), best);
            hasFirst |= best == from;
            hasLast |= best == from + 19;
            hasNext |= bestOf(30, from, from + 20) == from + 20;
        }
        holds("the first was best, the last was, and the one beyond would have been", hasFirst && hasLast && hasNext);
        due("its salt is not changed", x.bread(0, 2), 5);
    }

    private static void bestSaltUpTo9999() {
        about("25: but at most 9999");
        SaltShares x = withBread(5, false, 30);
        boolean isBeyondBetter = false;
        for (int from = 9970; from <= 9999; from++) {
            int best = bestOf(30, from, Math.min(from + 19, 9999));
            due("bestSalt from " + from, x.bestSalt(0, from), best);
            isBeyondBetter |= bestOf(30, from, from + 19) > 9999;
        }
        due("the only one", x.bestSalt(0, 9999), 9999);
        holds("a salt beyond would have been better", isBeyondBetter);
    }

    private static void bestSaltOfSeveral() {
        about("25: of several the lowest one");
        due("at the share 0", withBread(5, false, 0).bestSalt(0, 7), 7);
        due("at the share 100", withBread(5, false, 100).bestSalt(0, 9980), 9980);
        SaltShares held = withBread(5, false, 50);
        for (int person = 0; person < 150; person++) {
            held.hold(person, 0, false);
        }
        due("all held out", held.bestSalt(0, 0), 0);
        SaltShares sticky = withBread(5, true, 100);
        sticky.pass(1);
        sticky.lower(0, 30);
        due("all ate it", sticky.bestSalt(0, 123), 123);
        boolean areSeveral = false;
        SaltShares x = withBread(5, false, 30);
        for (int from = 0; from < 9980; from += 20) {
            int best = bestOf(30, from, from + 19);
            int many = 0;
            for (int salt = from; salt <= from + 19; salt++) {
                many += personsWithin(salt, 0, 29) == personsWithin(best, 0, 29) ? 1 : 0;
            }
            areSeveral |= many > 1;
            due("bestSalt from " + from, x.bestSalt(0, from), best);
        }
        holds("several were as good", areSeveral);
    }

    private static void bestSaltWithHoldsAndSticking() {
        about("25: by which, if it was its salt, the most persons would eat the bread");
        SaltShares x = withBread(5, true, 30);
        x.pass(1);
        x.hold(0, 0, false);
        x.hold(1, 0, true);
        for (int from = 0; from < 200; from += 7) {
            int best = -1;
            int most = -1;
            for (int salt = from; salt <= from + 19; salt++) {
                int eaters = 1;
                for (int person = 2; person < 150; person++) {
                    eaters += bucketOf(person, 5) < 30 || bucketOf(person, salt) < 30 ? 1 : 0;
                }
                best = eaters > most ? salt : best;
                most = Math.max(most, eaters);
            }
            due("bestSalt from " + from, x.bestSalt(0, from), best);
        }
    }

    private static void bestSaltOfNone() {
        about("25: NONE if it has ended, or is in a group; no such bread; from is out of range");
        onlyTells(Checks::busyTown, "bestSalt in a group", -1, x -> x.bestSalt(0, 0));
        onlyTells(Checks::busyTown, "bestSalt of an ended one of a group", -1, x -> x.bestSalt(4, 9999));
        SaltShares x = withBread(5, false, 30);
        x.end(0);
        due("bestSalt of an ended one", x.bestSalt(0, 0), -1);
        refusesNoBreads("bestSalt", (y, bread) -> y.bestSalt(bread, 0));
        refusesNoBreads("bestSalt out of range", (y, bread) -> y.bestSalt(bread, 10000));
        for (int from : SALTS_OUT_OF_RANGE) {
            refused(Checks::busyTown, "bestSalt from " + from, ARGUMENT, y -> y.bestSalt(3, from));
            refused(Checks::busyTown, "bestSalt in a group from " + from, ARGUMENT, y -> y.bestSalt(0, from));
            refused(Checks::busyTown, "bestSalt of an ended one from " + from, ARGUMENT, y -> y.bestSalt(4, from));
        }
    }

    // ---- Promise 26

    private static void nextEaterByTheLeastShare() {
        about("26: the person who would eat it newly at the least share by which somebody would");
        for (int bread = 0; bread < 4; bread++) {
            SaltShares x = busyTown();
            boolean isMore = true;
            while (isMore) {
                int due = newcomer(x, bread);
                due("nextEater of " + bread + " at " + x.bread(bread, 3), x.nextEater(bread), due);
                int next = x.bread(bread, 3) + 1;
                isMore = next <= 100 && x.ifShare(bread, next) >= 0;
                if (isMore) {
                    x.raise(bread, next);
                }
            }
            due("nobody at the greatest share of " + bread, x.nextEater(bread), -1);
        }
    }

    /** Found by raising it really, bucket by bucket. */
    private static int newcomer(SaltShares x, int bread) {
        boolean[] before = new boolean[150];
        for (int person = 0; person < 150; person++) {
            before[person] = x.eats(person, bread) != 0;
        }
        for (int share = x.bread(bread, 3) + 1; share <= 100 && x.ifShare(bread, share) >= 0; share++) {
            x.raise(bread, share);
            int found = -1;
            for (int person = 149; person >= 0; person--) {
                found = x.eats(person, bread) != 0 && !before[person] ? person : found;
            }
            x.undo();
            if (found >= 0) {
                return found;
            }
        }
        return -1;
    }

    private static void nextEaterIfThereIsNobody() {
        about("26: NONE if there is nobody, or it has ended");
        due("at the share 100", withBread(0, false, 100).nextEater(0), -1);
        due("at the share 99", withBread(0, false, 99).nextEater(0), 106);
        due("at the share 0", withBread(0, false, 0).nextEater(0), 0);
        SaltShares held = withBread(0, false, 99);
        held.hold(106, 0, false);
        due("the next of the bucket", held.nextEater(0), 115);
        held.hold(115, 0, true);
        due("one is held out, the other in", held.nextEater(0), -1);
        held.letGo(106, 0);
        due("the first may come again", held.nextEater(0), 106);
        SaltShares sticky = withBread(0, true, 100);
        sticky.pass(1);
        sticky.lower(0, 0);
        due("all ate it", sticky.nextEater(0), -1);
        SaltShares full = town();
        full.raise(0, 99);
        full.raise(1, 1);
        due("no bucket is left", full.nextEater(1), -1);
        full.lower(0, 98);
        due("one bucket is left", full.nextEater(1), firstOf(11, 98));
        onlyTells(Checks::busyTown, "nextEater of an ended one", -1, x -> x.nextEater(4));
        SaltShares ended = withBread(0, false, 50);
        ended.end(0);
        due("nextEater of an ended one that could have had more", ended.nextEater(0), -1);
        SaltShares endedInGroup = town();
        endedInGroup.end(0);
        due("nextEater of an ended one of a group with free buckets", endedInGroup.nextEater(0), -1);
        refusesNoBreads("nextEater", SaltShares::nextEater);
    }

    // ---- Promise 27

    private static void partOfTheTown() {
        about("27: Returns the number of persons who eat it, as a double, divided by 150");
        SaltShares x = withBread(0, false, 0);
        holds("nobody", x.part(0) == 0.0 && Double.doubleToLongBits(x.part(0)) == 0);
        for (int person = 0; person < 150; person++) {
            x.hold(person, 0, true);
            holds("part of " + person, x.part(0) == (double) (person + 1) / 150);
        }
        holds("all", x.part(0) == 1.0);
        x.end(0);
        holds("of an ended one", x.part(0) == 0.0);
        refusesNoBreads("part", (y, bread) -> (long) y.part(bread));
        onlyTells(Checks::busyTown, "part", Double.doubleToLongBits(busyTown().bread(0, 5) / 150.0),
                y -> Double.doubleToLongBits(y.part(0)));
    }

    // ---- Promise 28

    private static final int[] COUNTS = {0, 1, 2, 3, 4, 5, 6, 7, 8, 10, 11, 12, 20, 21, 22};

    private static long digestOf(SaltShares x, String text) {
        long hash = 2459;
        for (int what : COUNTS) {
            hash = 31 * hash + x.count(what);
        }
        for (int bread = 0; bread < x.count(0); bread++) {
            for (int what = 0; what < 12; what++) {
                hash = 31 * hash + x.bread(bread, what);
            }
            hash = 31 * hash + x.overlap(bread, 0);
            hash = 31 * hash + x.ifShare(bread, 50);
            hash = 31 * hash + x.shareFor(bread, 75);
            hash = 31 * hash + x.bestSalt(bread, 100);
            hash = 31 * hash + x.nextEater(bread);
            hash = 31 * hash + Double.doubleToLongBits(x.part(bread));
            for (int person = 0; person < 150; person++) {
                hash = 31 * hash + x.eats(person, bread);
            }
        }
        for (int person = 0; person < 150; person++) {
            for (int what = 0; what < 5; what++) {
                hash = 31 * hash + x.person(person, what);
            }
        }
        for (int i = 0; i < 300; i++) {
            hash = 31 * hash + x.owner(i / 100, i % 100);
        }
        hash = 31 * hash + text.length();
        for (int i = 0; i < text.length(); i++) {
            hash = 31 * hash + text.charAt(i);
        }
        return hash;
    }

    private static void digestOfNoneAndAll() {
        about("28: the hash of the whole state");
        due("a new object", new SaltShares().digest(), NEW_DIGEST);
        due("a busy town", busyTown().digest(), digestOf(busyTown(), "d1;x"));
        onlyTells(Checks::busyTown, "digest", busyTown().digest(), SaltShares::digest);
        SaltShares x = new SaltShares();
        StringBuilder text = new StringBuilder();
        for (int i = 0; i < 60; i++) {
            char c = (char) (33 + i * 93 / 59);
            text.append(c);
            x.append(c);
            due("digest with " + text, x.digest(), digestOf(x, text.toString()));
        }
        for (int bread = 0; bread < 8; bread++) {
            x.open(bread % 4 - 1, 1250 * bread, bread % 2 == 0);
            x.raise(bread, bread < 4 ? 100 - bread : bread - 4);
            x.pass(bread + 1);
            due("digest with " + (bread + 1) + " breads", x.digest(), digestOf(x, text.toString()));
        }
        for (int bread = 0; bread < 8; bread++) {
            x.hold(149, bread, bread % 3 == 0);
            x.end(7 - bread);
            due("digest with " + (bread + 1) + " ended", x.digest(), digestOf(x, text.toString()));
            x.undo();
            due("digest after undo", x.digest(), digestOf(x, text.toString()));
        }
    }

    /** Worked out apart from Java: 9 zeros, 11, 22, 33, three times 100, 750 zeros, 300 times -1, and a zero. */
    private static final long NEW_DIGEST = -8756057074296493619L;

    private static void digestOfParts() {
        about("28: the bits of part (as Double.doubleToLongBits)");
        SaltShares x = withBread(0, false, 0);
        for (int person = 0; person < 150; person++) {
            due("digest with " + person + " eaters", x.digest(), digestOf(x, ""));
            x.hold(person, 0, true);
        }
        due("digest with all", x.digest(), digestOf(x, ""));
    }

    public static void main(String[] args) {
        overlapOfTwo();
        overlapRefuses();
        ifShareIsWhatWouldBe();
        ifShareWithHoldsAndSticking();
        outlookInEachGroup();
        ifShareRefuses();
        shareForIsTheLeast();
        shareForNobodyAndForAll();
        shareForInAFullGroup();
        shareForRefuses();
        bestSaltOfTwenty();
        bestSaltUpTo9999();
        bestSaltOfSeveral();
        bestSaltWithHoldsAndSticking();
        bestSaltOfNone();
        nextEaterByTheLeastShare();
        nextEaterIfThereIsNobody();
        partOfTheTown();
        digestOfNoneAndAll();
        digestOfParts();
        close("OutlookBoundaryTest");
    }
}
