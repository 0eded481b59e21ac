/** The section 'Terms' of the document, a test for each sentence of it that names a boundary. */
public final class TermsTest extends Checks {
    /** Buckets of the persons 0 to 149, worked out apart from Java. */
    private static final int[] BY_SALT_0 = {0, 0, 6, 74, 97, 72, 18, 71, 25, 6, 70, 91, 56, 30, 30, 69, 69, 38, 48, 70,
        2, 95, 40, 91, 64, 72, 12, 40, 98, 80, 73, 83, 94, 69, 36, 38, 66, 76, 95, 84, 37, 62, 0, 35, 10, 81, 70, 38,
        46, 95, 96, 59, 35, 77, 43, 17, 85, 52, 43, 56, 49, 8, 71, 12, 72, 5, 88, 76, 73, 93, 85, 51, 5, 22, 47, 17,
        42, 41, 68, 84, 15, 19, 12, 27, 64, 59, 27, 5, 27, 9, 6, 7, 42, 25, 19, 12, 71, 39, 12, 59, 95, 57, 94, 6, 7,
        8, 99, 33, 2, 59, 6, 69, 12, 24, 62, 99, 6, 60, 64, 4, 12, 78, 77, 10, 59, 8, 70, 62, 29, 21, 60, 85, 34, 31,
        41, 57, 73, 56, 6, 61, 48, 85, 47, 36, 7, 35, 97, 5, 34, 72};
    private static final int[] BY_SALT_9999 = {28, 0, 28, 60, 94, 66, 28, 52, 92, 16, 40, 53, 37, 27, 87, 7, 61, 81, 31,
        13, 22, 59, 12, 38, 34, 50, 93, 66, 67, 97, 79, 77, 71, 79, 83, 4, 52, 13, 17, 22, 1, 95, 27, 41, 70, 70, 11,
        45, 27, 65, 32, 6, 81, 6, 7, 38, 88, 14, 17, 11, 2, 36, 73, 48, 22, 45, 33, 60, 88, 90, 77, 41, 79, 63, 79, 54,
        82, 57, 56, 39, 10, 1, 8, 14, 7, 33, 44, 27, 19, 58, 23, 70, 42, 29, 3, 57, 15, 23, 26, 85, 69, 82, 53, 27, 88,
        72, 17, 27, 31, 59, 76, 68, 7, 8, 52, 51, 46, 71, 73, 82, 86, 70, 7, 5, 64, 16, 37, 83, 82, 91, 45, 45, 13, 85,
        43, 24, 82, 53, 8, 52, 5, 11, 8, 94, 42, 2, 49, 88, 37, 92};

    // ---- What it is

    private static void useFor512Calls() {
        about("An object is used for at most 512 calls");
        SaltShares x = new SaltShares();
        for (int bread = 0; bread < 8; bread++) {
            x.open(-1, bread, false);
            x.raise(bread, 100);
        }
        for (int call = 17; call <= 507; call++) {
            due("pass", x.pass(50), 50 * 8 * 150);
        }
        int days = 491 * 50;
        due("day at the 508th call", x.count(2), days);
        due("servings at the 509th call", x.count(3), days * 8 * 150);
        due("servings of a bread at the 510th call", x.bread(7, 7), days * 150);
        due("servings of a person at the 511th call", x.person(149, 4), days * 8);
        due("undo at the 512th call", x.undo(), 5);
    }

    private static void daysByTexts() {
        about("An object is used for at most 512 calls");
        SaltShares x = withBread(0, true, 100);
        String fullOfDays = "d50;d50;d50;d50;d50;d50;d50;d50;d50;d50;d50;d50;d50;d50;d50";
        for (int call = 2; call + 60 <= 511; call += 60) {
            due("run", ran(x, fullOfDays), 15);
        }
        due("servings", x.count(3), 8 * 750 * 150);
    }

    // ---- Buckets

    private static void personsOfTheTown() {
        about("The town has 150 persons, numbered from 0");
        SaltShares x = withBread(5, false, 100);
        due("all of them eat it", x.bread(0, 5), 150);
        due("the first", x.eats(0, 0), 3);
        due("the last", x.eats(149, 0), 3);
        for (int far : FAR) {
            refused(Checks::town, "eats(" + far + ")", INDEX, y -> y.eats(far, 0));
            refused(Checks::town, "bucket(" + far + ")", INDEX, y -> y.bucket(far, 0));
            refused(Checks::town, "person(" + far + ")", INDEX, y -> y.person(far, 0));
            refused(Checks::town, "hold(" + far + ")", INDEX, y -> y.hold(far, 0, true));
            refused(Checks::town, "letGo(" + far + ")", INDEX, y -> y.letGo(far, 0));
        }
    }

    private static void bucketsByFirstAndLastSalt() {
        about("The bucket of a person by a salt (0 to 9999)");
        SaltShares x = withBread(0, false, 0);
        x.open(-1, 9999, false);
        for (int person = 0; person < 150; person++) {
            due("bucket of " + person + " by 0", x.bucket(person, 0), BY_SALT_0[person]);
            due("bucket of " + person + " by 9999", x.bucket(person, 1), BY_SALT_9999[person]);
        }
    }

    private static void overflowIsCutOff() {
        about("with ints of 32 bits whose overflow is cut off; zeros coming in; without its highest bit");
        SaltShares x = withBread(0, false, 0);
        for (int salt = 0; salt <= 9999; salt += 101) {
            x.resalt(0, salt);
            for (int person = 0; person < 150; person++) {
                due("bucket of " + person + " by " + salt, x.bucket(person, 0), bucketOf(person, salt));
            }
        }
    }

    private static void remainderBy100() {
        about("The bucket is the remainder of x, without its highest bit, by 100");
        SaltShares x = withBread(0, false, 0);
        due("the least bucket: of the person 0 by 0", x.bucket(0, 0), 0);
        due("the greatest bucket: of the person 106 by 0", x.bucket(106, 0), 99);
        due("of nobody else before", firstOf(0, 99), 106);
        x.raise(0, 1);
        due("the bucket 0 is owned from the share 1 on", x.eats(0, 0), 3);
        x.raise(0, 99);
        due("the bucket 99 is not owned at the share 99", x.eats(106, 0), 0);
        x.raise(0, 100);
        due("but at the share 100", x.eats(106, 0), 3);
    }

    // ---- Breads and groups

    private static void atMost8Breads() {
        about("There are at most 8 breads, numbered from 0 in the order in which they came");
        SaltShares x = new SaltShares();
        for (int bread = 0; bread < 8; bread++) {
            int next = bread;
            fails(x, "bread " + bread + " before it came", INDEX, () -> x.bread(next, 0));
            due("open", x.open(bread % 4 - 1, 0, false), bread);
            due("its group", x.bread(bread, 1), bread % 4 - 1);
        }
        fails(x, "a ninth bread", STATE, () -> x.open(-1, 0, false));
        fails(x, "bread 8", INDEX, () -> x.bread(8, 0));
        due("breads", x.count(0), 8);
    }

    private static void anEndedOneKeepsItsNumber() {
        about("one that has ended keeps its number");
        SaltShares x = new SaltShares();
        for (int bread = 0; bread < 8; bread++) {
            due("open", x.open(-1, bread, false), bread);
            x.end(bread);
        }
        due("breads", x.count(0), 8);
        due("open ones", x.count(1), 0);
        for (int bread = 0; bread < 8; bread++) {
            due("the salt of bread " + bread, x.bread(bread, 2), bread);
        }
        fails(x, "a ninth bread, though all have ended", STATE, () -> x.open(-1, 0, false));
    }

    private static void itsShareIsHowMany() {
        about("A bread that is open owns some of 100 buckets; its share is how many");
        SaltShares x = town();
        for (int share : new int[] {0, 1, 99, 100}) {
            x.raise(0, share);
            int owned = 0;
            for (int bucket = 0; bucket < 100; bucket++) {
                owned += x.owner(0, bucket) == 0 ? 1 : 0;
            }
            due("owned", owned, share);
            due("share", x.bread(0, 3), share);
            due("free", x.count(20), 100 - share);
        }
    }

    private static void saltsOfTheGroups() {
        about("There are 3 groups, numbered from 0, each with a salt, at first 11, 22 and 33");
        SaltShares x = new SaltShares();
        for (int group = 0; group < 3; group++) {
            due("salt of group " + group, x.count(10 + group), 11 + 11 * group);
            due("open in it", x.open(group, 0, false), group);
            due("the salt of its bread", x.bread(group, 2), 11 + 11 * group);
            due("bucket of a person", x.bucket(149, group), bucketOf(149, 11 + 11 * group));
        }
        for (int group : new int[] {MIN, -2, 3, MAX}) {
            refused(Checks::town, "open in group " + group, ARGUMENT, y -> y.open(group, 0, false));
            refused(Checks::town, "shake group " + group, INDEX, y -> y.shake(group, 0));
            refused(Checks::town, "owner in group " + group, INDEX, y -> y.owner(group, 0));
        }
    }

    private static void aBreadGoesByTheSaltOfTheGroup() {
        about("A bread of a group goes by the salt of the group");
        SaltShares x = new SaltShares();
        x.open(2, 0, false);
        x.open(2, 9999, false);
        x.raise(0, 50);
        x.raise(1, 50);
        due("eaters of the first", x.bread(0, 5), personsWithin(33, 0, 49));
        due("eaters of the second", x.bread(1, 5), personsWithin(33, 50, 99));
        x.shake(2, 9999);
        due("its salt then", x.bread(0, 2), 9999);
        due("eaters of the first then", x.bread(0, 5), personsWithin(9999, 0, 49));
        due("eaters of the second then", x.bread(1, 5), personsWithin(9999, 50, 99));
    }

    private static void noOtherBreadOfItOwnsThem() {
        about("and owns buckets that no other bread of it owns");
        SaltShares x = new SaltShares();
        for (int bread = 0; bread < 8; bread++) {
            x.open(1, 0, false);
            x.raise(bread, bread < 4 ? 13 : 12);
        }
        due("free", x.count(21), 0);
        int from = 0;
        for (int bread = 0; bread < 8; bread++) {
            due("lowest of " + bread, x.bread(bread, 10), from);
            from += bread < 4 ? 13 : 12;
            due("highest of " + bread, x.bread(bread, 11), from - 1);
            int its = bread;
            fails(x, "one bucket more for " + bread, STATE, () -> x.raise(its, x.bread(its, 3) + 1));
        }
        due("nobody eats two of them", x.count(6), 0);
        due("all eat one of them", x.count(4), 150);
    }

    private static void bucketsOfOneInNoGroup() {
        about("Another bread has a salt of its own, and owns the buckets from 0 on, as many as its share is");
        SaltShares x = town();
        for (int share : new int[] {1, 2, 99, 100}) {
            x.raise(2, share);
            due("lowest", x.bread(2, 10), 0);
            due("highest", x.bread(2, 11), share - 1);
            due("eaters", x.bread(2, 5), personsWithin(42, 0, share - 1));
        }
        due("another may own the same ones", x.raise(3, 100), 150);
        due("a group may, too", x.raise(0, 100), 150);
        due("owner in a group", x.owner(1, 0), -1);
    }

    private static void raisedToTheLowestFreeOnes() {
        about("When the share is raised, it gets the lowest buckets that no bread of the group owns");
        SaltShares x = new SaltShares();
        for (int bread = 0; bread < 4; bread++) {
            x.open(0, 0, false);
            x.raise(bread, 25);
        }
        x.lower(2, 24);
        x.lower(0, 23);
        due("raise by one", x.raise(3, 26), personsWithin(11, 23, 23));
        due("the lowest free one", x.owner(0, 23), 3);
        due("the next is free", x.owner(0, 24), -1);
        due("one beyond is another's", x.owner(0, 25), 1);
        x.raise(3, 28);
        due("the next", x.owner(0, 24), 3);
        due("and the one after the gap", x.owner(0, 74), 3);
        due("lowest of it", x.bread(3, 10), 23);
        due("highest of it", x.bread(3, 11), 99);
        due("free", x.count(20), 0);
    }

    private static void loweredByTheHighestOnes() {
        about("when it is lowered, it loses the highest ones that it owns");
        SaltShares x = new SaltShares();
        x.open(0, 0, false);
        x.open(0, 0, false);
        x.raise(0, 2);
        x.raise(1, 96);
        x.raise(0, 4);
        x.lower(0, 3);
        due("the highest is lost", x.owner(0, 99), -1);
        due("the next is kept", x.owner(0, 98), 0);
        x.lower(0, 1);
        due("across the gap", x.owner(0, 1), -1);
        due("the lowest is kept", x.owner(0, 0), 0);
        due("another's is kept", x.owner(0, 97), 1);
        x.lower(0, 0);
        due("the lowest is lost", x.owner(0, 0), -1);
        due("lowest of none", x.bread(0, 10), -1);
        due("highest of none", x.bread(0, 11), -1);
    }

    private static void anEndedOneOwnsNone() {
        about("When a bread ends, it owns none any more");
        SaltShares x = town();
        x.raise(0, 40);
        x.raise(1, 60);
        x.raise(2, 100);
        x.end(0);
        x.end(2);
        for (int bread : new int[] {0, 2}) {
            due("share", x.bread(bread, 3), 0);
            due("lowest", x.bread(bread, 10), -1);
            due("highest", x.bread(bread, 11), -1);
            due("eaters", x.bread(bread, 5), 0);
        }
        due("owner of its first", x.owner(0, 0), -1);
        due("owner of its last", x.owner(0, 39), -1);
        due("owner of another's", x.owner(0, 40), 1);
        due("free", x.count(20), 40);
        due("others get them", x.raise(1, 100), personsWithin(11, 0, 39));
    }

    // ---- Who eats

    private static void heldInOrOut() {
        about("A person can be held for a bread: in or out");
        SaltShares x = town();
        x.hold(0, 0, true);
        x.hold(0, 0, false);
        due("held in", x.bread(0, 8), 0);
        due("held out", x.bread(0, 9), 1);
        x.hold(0, 0, true);
        due("held in", x.person(0, 2), 1);
        due("held out", x.person(0, 3), 0);
        due("holds", x.count(7), 1);
        for (int person = 0; person < 150; person++) {
            x.hold(person, 1, person % 2 == 0);
        }
        due("all are held", x.count(7), 151);
        due("held in", x.bread(1, 8), 75);
        due("held out", x.bread(1, 9), 75);
    }

    private static void onlyIfItIsOpen() {
        about("A person eats a bread if it is open");
        SaltShares x = withBread(0, true, 100);
        x.hold(0, 0, true);
        x.pass(1);
        due("by hold", x.eats(0, 0), 1);
        due("by the bucket", x.eats(1, 0), 3);
        x.end(0);
        due("held in", x.eats(0, 0), 0);
        due("sticky and eaten", x.eats(1, 0), 0);
        due("nobody", x.bread(0, 5), 0);
        due("a day without eaters", x.pass(1), 0);
    }

    private static void heldInEats() {
        about("and if the person is held in for it");
        SaltShares x = withBread(0, false, 0);
        due("held in at the share 0", x.hold(106, 0, true), 1);
        due("why", x.eats(106, 0), 1);
        due("one eater", x.bread(0, 5), 1);
        due("not another", x.eats(105, 0) + x.eats(107, 0), 0);
    }

    private static void stickyAndAteBefore() {
        about("or is not held for it, and the bread is sticky, and the person ate it before");
        for (int sticky = 0; sticky <= 1; sticky++) {
            SaltShares x = withBread(42, sticky == 1, 50);
            x.pass(1);
            x.lower(0, 0);
            due("eaters who ate it, sticky " + sticky, x.bread(0, 5), sticky * personsWithin(42, 0, 49));
            x.raise(0, 60);
            x.lower(0, 0);
            due("eaters before a day has passed, sticky " + sticky, x.bread(0, 5), sticky * personsWithin(42, 0, 49));
        }
        SaltShares y = withBread(42, true, 100);
        y.pass(1);
        y.lower(0, 0);
        due("held out", y.hold(0, 0, false), 1);
        due("why not", y.eats(0, 0), 0);
        due("not held any more", y.letGo(0, 0), 1);
        due("why", y.eats(0, 0), 2);
    }

    private static void ownsTheBucket() {
        about("or is not held for it, and the bread owns the bucket of the person");
        SaltShares x = withBread(0, false, 100);
        due("not held", x.eats(0, 0), 3);
        x.hold(0, 0, false);
        due("held out", x.eats(0, 0), 0);
        due("all others", x.bread(0, 5), 149);
        x.lower(0, 0);
        due("nobody's bucket", x.bread(0, 5), 0);
    }

    private static void theDay() {
        about("the number of the day, at first 0, becomes 1 more");
        SaltShares x = new SaltShares();
        due("at first", x.count(2), 0);
        x.pass(1);
        due("then", x.count(2), 1);
        x.pass(50);
        due("then", x.count(2), 51);
    }

    private static void allAtOnce() {
        about("each person eats each bread as told by how things stand then (all persons and breads at once)");
        SaltShares x = new SaltShares();
        for (int bread = 0; bread < 8; bread++) {
            x.open(bread < 4 ? 0 : -1, bread, bread % 2 == 0);
            x.raise(bread, 25);
        }
        int due = 150;
        for (int bread = 4; bread < 8; bread++) {
            due += personsWithin(bread, 0, 24);
        }
        due("servings of a day", x.pass(1), due);
        due("servings so far", x.count(3), due);
        due("servings of the next", x.pass(2), 2 * due);
        int servings = 0;
        for (int person = 0; person < 150; person++) {
            servings += x.person(person, 4);
            due("what it eats, it ate", x.person(person, 1), x.person(person, 0));
        }
        due("servings of all persons", servings, 3 * due);
    }

    private static void theyHaveEatenItThen() {
        about("they have eaten it then, and this is a serving");
        SaltShares x = withBread(7, false, 100);
        due("before", x.bread(0, 6) + x.bread(0, 7) + x.person(0, 1) + x.person(0, 4) + x.count(5), 0);
        x.pass(1);
        due("eaten", x.bread(0, 6), 150);
        due("servings", x.bread(0, 7), 150);
        due("by a person", x.person(149, 1), 1);
        due("servings to a person", x.person(149, 4), 1);
        x.pass(1);
        due("still so many have eaten", x.bread(0, 6), 150);
        due("servings then", x.bread(0, 7), 300);
    }

    // ---- Input text

    private static void atMost60Characters() {
        about("The buffer has at most 60 characters");
        SaltShares x = new SaltShares();
        for (int length = 1; length <= 60; length++) {
            due("append", x.append('!'), length);
        }
        fails(x, "append the 61st", STATE, () -> x.append('!'));
        due("clearBuffer", x.clearBuffer(), 60);
        due("append again", x.append('!'), 1);
    }

    private static void error(String text, int index) {
        SaltShares x = new SaltShares();
        type(x, text);
        due("firstError of " + text, x.firstError(), index);
        due("firstError again", x.firstError(), index);
        due("length of " + text, x.clearBuffer(), text.length());
    }

    private static boolean isComplete(String text) {
        SaltShares x = town();
        type(x, text);
        try {
            x.run();
            return true;
        } catch (IllegalArgumentException e) {
            return false;
        }
    }

    private static void complete(String text) {
        error(text, text.length());
        holds(text + " is refused", isComplete(text));
    }

    /** No error, but more must come. */
    private static void unfinished(String text) {
        error(text, text.length());
        holds(text + " is carried out", !isComplete(text));
    }

    private static void faulty(String text, int index) {
        error(text, index);
        holds(text + " is carried out", !isComplete(text));
    }

    private static void oneOrMoreCommands() {
        about("consists of one or more commands separated by ';'");
        unfinished("");
        complete("x0");
        complete("x0;x1");
        unfinished("x0;");
        faulty(";", 0);
        faulty(";x0", 0);
        faulty("x0;;", 3);
        faulty("x0;;x1", 3);
        faulty("x0x1", 2);
        faulty("x0,x1", 2);
        complete("d1;+0=0;-1=0;i0@0;o0@1;x2");
    }

    private static void sharesInATextAreFrom0To100() {
        about("'+' or '-', the digit of a bread, 0 to 7, '=', and a share, 0 to 100");
        for (String sign : new String[] {"+", "-"}) {
            unfinished(sign);
            complete(sign + "0=0");
            complete(sign + "7=100");
            complete(sign + "7=10");
            complete(sign + "7=99");
            complete(sign + "7=9");
            unfinished(sign + "7");
            unfinished(sign + "7=");
            faulty(sign + "8=0", 1);
            faulty(sign + "9=0", 1);
            faulty(sign + "/=0", 1);
            faulty(sign + "=0", 1);
            faulty(sign + "00=0", 2);
            faulty(sign + "0@0", 2);
            faulty(sign + "0=-1", 3);
            faulty(sign + "0=+1", 3);
            faulty(sign + "0=;", 3);
            faulty(sign + "0=101", 5);
            faulty(sign + "0=109", 5);
            faulty(sign + "0=110", 5);
            faulty(sign + "0=200", 5);
            faulty(sign + "0=999", 5);
            faulty(sign + "0=1000", 6);
            faulty(sign + "0=0=", 4);
        }
    }

    private static void personsInATextAreFrom0To149() {
        about("'i' or 'o', a person, 0 to 149, '@', and the digit of a bread");
        for (String sign : new String[] {"i", "o"}) {
            unfinished(sign);
            complete(sign + "0@0");
            complete(sign + "149@7");
            complete(sign + "99@7");
            complete(sign + "100@3");
            complete(sign + "9@3");
            complete(sign + "15@3");
            complete(sign + "90@3");
            unfinished(sign + "149");
            unfinished(sign + "149@");
            unfinished(sign + "14");
            unfinished(sign + "0");
            faulty(sign + "0!", 2);
            faulty(sign + "150@0", 3);
            faulty(sign + "151@0", 3);
            faulty(sign + "159@0", 3);
            faulty(sign + "160@0", 3);
            faulty(sign + "200@0", 3);
            faulty(sign + "999@0", 3);
            faulty(sign + "1000@0", 4);
            faulty(sign + "@0", 1);
            faulty(sign + "-1@0", 1);
            faulty(sign + "0@8", 3);
            faulty(sign + "0@/", 3);
            faulty(sign + "0@00", 4);
            faulty(sign + "0=0", 2);
            faulty(sign + "149;", 4);
        }
    }

    private static void breadsThatEndInAText() {
        about("'x' and the digit of a bread (it ends)");
        unfinished("x");
        complete("x0");
        complete("x7");
        faulty("x8", 1);
        faulty("x9", 1);
        faulty("x/", 1);
        faulty("x:", 1);
        faulty("x-1", 1);
        faulty("x;", 1);
        faulty("x00", 2);
        faulty("x0=", 2);
        faulty("x0@", 2);
    }

    private static void daysInATextAreFrom1To50() {
        about("'d' and a number of days, 1 to 50 (they pass)");
        unfinished("d");
        complete("d1");
        complete("d5");
        complete("d6");
        complete("d9");
        complete("d10");
        complete("d49");
        complete("d50");
        faulty("d0", 1);
        faulty("d51", 2);
        faulty("d59", 2);
        faulty("d60", 2);
        faulty("d99", 2);
        faulty("d100", 3);
        faulty("d500", 3);
        faulty("d-1", 1);
        faulty("d;", 1);
        faulty("d1@", 2);
        faulty("d1=", 2);
    }

    private static void numbersAreWithoutLeadingZeros() {
        about("Numbers are without leading zeros");
        faulty("+0=00", 4);
        faulty("-0=01", 4);
        faulty("+0=0100", 4);
        faulty("i00@0", 2);
        faulty("o01@0", 2);
        faulty("d01", 1);
        faulty("d00", 1);
        complete("+0=0");
        complete("o0@0");
    }

    private static void ofAnyLength() {
        about("a character is a syntax error if no row of commands, of any length, begins with");
        String row = "+0=100;-1=100;i149@2;o149@3;x4;d50;d50;d50;d50;d50;d50;d50;";
        due("its length", row.length(), 59);
        error(row, 59);
        error(row + "i", 60);
        error(row + "d", 60);
        error(row + "@", 59);
        String half = row.substring(7) + "x0;x0;+";
        error(half, half.length());
        for (int end = 0; end <= row.length(); end++) {
            error(row.substring(0, end), end);
        }
    }

    private static void theFirstOneOfSeveral() {
        about("The buffer is read from left to right");
        error("y", 0);
        error("yy", 0);
        error("d1;yd0", 3);
        error("d0;d1", 1);
        error("+0=5y+0=5z", 4);
        StringBuilder full = new StringBuilder("d50");
        for (int i = 0; i < 14; i++) {
            full.append(";d50");
        }
        error(full + "!", 59);
        error("!" + full, 0);
    }

    private static void otherSigns() {
        about("a character is a syntax error if no row begins with it");
        for (char c = 33; c <= 126; c++) {
            error(String.valueOf(c), "+-iodx".indexOf(c) >= 0 ? 1 : 0);
            error("d1;" + c, "+-iodx".indexOf(c) >= 0 ? 4 : 3);
            error("d1" + c, c >= '0' && c <= '9' || c == ';' ? 3 : 2);
        }
    }

    // ---- Undo

    /** Calls that change nothing, and are saved all the same. */
    private static void savedIfNothingIsChanged() {
        about("saves the state from before it (also if it changes nothing)");
        undoable(Checks::town, "raise(0, 0)", 0, x -> x.raise(0, 0));
        undoable(Checks::town, "lower(0, 0)", 0, x -> x.lower(0, 0));
        undoable(Checks::town, "resalt(3, 42)", 0, x -> x.resalt(3, 42));
        undoable(Checks::town, "shake(2, 33)", 33, x -> x.shake(2, 33));
        undoable(Checks::busyTown, "hold(5, 0, true)", 0, x -> x.hold(5, 0, true));
        undoable(Checks::busyTown, "hold(6, 0, false)", 0, x -> x.hold(6, 0, false));
        undoable(Checks::town, "run of x4", 0, x -> ran(x, "x4"));
        undoable(Checks::town, "run of +0=0", 1, x -> ran(x, "+0=0"));
    }

    private static void savedIfItDoesNotThrow() {
        about("Each method that is marked 'undoable' and does not throw an exception saves the state");
        undoable(SaltShares::new, "open(-1, 9999, true)", 0, x -> x.open(-1, 9999, true));
        undoable(Checks::busyTown, "open(2, 0, true)", 5, x -> x.open(2, 0, true));
        undoable(Checks::busyTown, "end(1)", 47, x -> x.end(1));
        // The person 5 is held in, and has one of these buckets.
        undoable(Checks::busyTown, "raise(0, 70)", personsWithin(11, 55, 99) - 1, x -> x.raise(0, 70));
        undoable(Checks::busyTown, "lower(3, 0)", personsWithin(42, 0, 9), x -> x.lower(3, 0));
        undoable(Checks::busyTown, "resalt(3, 0)", changedBetween(42, 0, 10), x -> x.resalt(3, 0));
        undoable(Checks::busyTown, "shake(0, 0)", 11, x -> x.shake(0, 0));
        undoable(Checks::busyTown, "hold(5, 0, false)", 1, x -> x.hold(5, 0, false));
        undoable(Checks::busyTown, "letGo(149, 4)", 0, x -> x.letGo(149, 4));
        int eaters = busyTown().bread(0, 5) + busyTown().bread(1, 5) + busyTown().bread(2, 5) + busyTown().bread(3, 5);
        undoable(Checks::busyTown, "pass(50)", 50 * eaters, x -> x.pass(50));
        undoable(SaltShares::new, "pass(1)", 0, x -> x.pass(1));
        undoable(Checks::town, "run of three commands", 3, x -> ran(x, "+3=100;d50;x3"));
    }

    private static int changedBetween(int oldSalt, int newSalt, int share) {
        int changed = 0;
        for (int person = 0; person < 150; person++) {
            changed += bucketOf(person, oldSalt) < share == bucketOf(person, newSalt) < share ? 0 : 1;
        }
        return changed;
    }

    private static void butTheBufferAndTheSavedStates() {
        about("all, also what is counted so far, but the buffer and the saved states");
        SaltShares x = town();
        x.raise(2, 100);
        x.pass(3);
        due("servings", x.count(3), 450);
        type(x, "d1");
        x.undo();
        due("day", x.count(2), 0);
        due("servings", x.count(3), 0);
        due("eaten so far", x.bread(2, 6) + x.bread(2, 7) + x.person(0, 1) + x.person(0, 4) + x.count(5), 0);
        due("the buffer stays", x.firstError(), 2);
        due("and can be run", x.run(), 1);
        type(x, "x");
        due("undo of a run", x.undo(), 5);
        due("what was run does not come back", x.clearBuffer(), 1);
        due("undo goes on to the state before", x.undo(), 4);
        due("share", x.bread(2, 3), 0);
    }

    private static void atMost6States() {
        about("At most 6 states are saved; the oldest one is dropped first");
        SaltShares x = new SaltShares();
        for (int day = 1; day <= 20; day++) {
            x.pass(1);
            due("saved after " + day, x.count(8), Math.min(day, 6));
        }
        for (int left = 5; left >= 0; left--) {
            due("undo", x.undo(), left);
            due("day", x.count(2), 14 + left);
        }
        fails(x, "a seventh undo", STATE, x::undo);
        x.pass(50);
        due("saved anew", x.count(8), 1);
        due("undo of it", x.undo(), 0);
        due("day", x.count(2), 14);
    }

    private static void savedAndUndoneByTurns() {
        about("At most 6 states are saved; the oldest one is dropped first");
        for (int undone = 1; undone <= 6; undone++) {
            SaltShares x = new SaltShares();
            for (int i = 0; i < 9; i++) {
                x.pass(1);
            }
            for (int i = 0; i < undone; i++) {
                x.undo();
            }
            for (int i = 0; i < undone + 1; i++) {
                x.pass(10);
            }
            due("saved", x.count(8), 6);
            for (int left = 5; left >= 0; left--) {
                x.undo();
                int ofTens = left - (5 - undone);
                due("day with " + left + " left", x.count(2), ofTens >= 0 ? 9 - undone + 10 * ofTens : 4 + left);
            }
        }
    }

    // ---- Exceptions

    private static void changesNothing() {
        about("A call that throws an exception changes nothing");
        refused(Checks::busyTown, "open", ARGUMENT, x -> x.open(0, -1, true));
        refused(Checks::busyTown, "end", STATE, x -> x.end(4));
        refused(Checks::busyTown, "raise", STATE, x -> x.raise(0, 71));
        refused(Checks::busyTown, "lower", STATE, x -> x.lower(0, 26));
        refused(Checks::busyTown, "resalt", STATE, x -> x.resalt(0, 5));
        refused(Checks::busyTown, "shake", ARGUMENT, x -> x.shake(0, 10000));
        refused(Checks::busyTown, "hold", STATE, x -> x.hold(0, 4, true));
        refused(Checks::busyTown, "letGo", STATE, x -> x.letGo(0, 0));
        refused(Checks::busyTown, "pass", ARGUMENT, x -> x.pass(51));
        refused(Checks::busyTown, "append", ARGUMENT, x -> x.append(127));
        refused(Checks::busyTown, "run", ARGUMENT, SaltShares::run);
        refused(SaltShares::new, "undo", STATE, SaltShares::undo);
    }

    private static void theFirstInTheThrowsClause() {
        about("If several exceptions apply, the one that is named first in the throws clause is thrown");
        refused(TermsTest::fullTown, "open", ARGUMENT, x -> x.open(3, 0, true));
        refused(TermsTest::fullTown, "open", ARGUMENT, x -> x.open(0, 10000, true));
        refused(Checks::busyTown, "raise of none", INDEX, x -> x.raise(5, 101));
        refused(Checks::busyTown, "raise of an ended one", ARGUMENT, x -> x.raise(4, 101));
        refused(Checks::busyTown, "raise down", ARGUMENT, x -> x.raise(0, -1));
        refused(Checks::busyTown, "lower of none", INDEX, x -> x.lower(5, -1));
        refused(Checks::busyTown, "lower of an ended one", ARGUMENT, x -> x.lower(4, -1));
        refused(Checks::busyTown, "lower up", ARGUMENT, x -> x.lower(0, 101));
        refused(Checks::busyTown, "resalt of none", INDEX, x -> x.resalt(-1, -1));
        refused(Checks::busyTown, "resalt of an ended one", ARGUMENT, x -> x.resalt(4, -1));
        refused(Checks::busyTown, "resalt of one of a group", ARGUMENT, x -> x.resalt(0, 10000));
        refused(Checks::busyTown, "shake of none", INDEX, x -> x.shake(3, 10000));
        refused(Checks::busyTown, "hold of nobody", INDEX, x -> x.hold(150, 4, true));
        refused(Checks::busyTown, "letGo of nobody", INDEX, x -> x.letGo(-1, 0));
        refused(TermsTest::fullBuffer, "append to a full buffer", ARGUMENT, x -> x.append(32));
        refused(Checks::busyTown, "bread of none", INDEX, x -> x.bread(5, 12));
        refused(Checks::busyTown, "person of none", INDEX, x -> x.person(150, 5));
        refused(Checks::busyTown, "ifShare of none", INDEX, x -> x.ifShare(5, 101));
        refused(Checks::busyTown, "shareFor of none", INDEX, x -> x.shareFor(5, 151));
        refused(Checks::busyTown, "bestSalt of none", INDEX, x -> x.bestSalt(5, 10000));
    }

    private static SaltShares fullTown() {
        SaltShares x = new SaltShares();
        for (int bread = 0; bread < 8; bread++) {
            x.open(-1, bread, false);
        }
        return x;
    }

    private static SaltShares fullBuffer() {
        SaltShares x = busyTown();
        x.clearBuffer();
        for (int length = 0; length < 60; length++) {
            x.append('~');
        }
        return x;
    }

    public static void main(String[] args) {
        useFor512Calls();
        daysByTexts();
        personsOfTheTown();
        bucketsByFirstAndLastSalt();
        overflowIsCutOff();
        remainderBy100();
        atMost8Breads();
        anEndedOneKeepsItsNumber();
        itsShareIsHowMany();
        saltsOfTheGroups();
        aBreadGoesByTheSaltOfTheGroup();
        noOtherBreadOfItOwnsThem();
        bucketsOfOneInNoGroup();
        raisedToTheLowestFreeOnes();
        loweredByTheHighestOnes();
        anEndedOneOwnsNone();
        heldInOrOut();
        onlyIfItIsOpen();
        heldInEats();
        stickyAndAteBefore();
        ownsTheBucket();
        theDay();
        allAtOnce();
        theyHaveEatenItThen();
        atMost60Characters();
        oneOrMoreCommands();
        sharesInATextAreFrom0To100();
        personsInATextAreFrom0To149();
        breadsThatEndInAText();
        daysInATextAreFrom1To50();
        numbersAreWithoutLeadingZeros();
        ofAnyLength();
        theFirstOneOfSeveral();
        otherSigns();
        savedIfNothingIsChanged();
        savedIfItDoesNotThrow();
        butTheBufferAndTheSavedStates();
        atMost6States();
        savedAndUndoneByTurns();
        changesNothing();
        theFirstInTheThrowsClause();
        close("TermsTest");
    }
}
