/** Shares of a town that try new breads, drawn by salt: see README.md. */
public final class SaltShares {
    public static final int NONE = -1;

    private static final int PERSONS = 150;
    private static final int BREADS = 8;
    private static final int GROUPS = 3;
    private static final int BUCKETS = 100;
    private static final int MAX_SALT = 9999;
    private static final int MAX_SHARE = 100;
    private static final int MAX_DAYS = 50;
    private static final int SALTS_TRIED = 20;
    private static final int SAVED = 6;
    private static final int TEXT = 60;

    private static final int NOT_EATEN = 0;
    private static final int BY_HOLD = 1;
    private static final int BY_STICKING = 2;
    private static final int BY_BUCKET = 3;

    private final Town town;
    private final History history;
    private final Outlook outlook;
    private final CommandText text;

    public SaltShares() {
        town = new Town();
        history = new History();
        outlook = new Outlook();
        text = new CommandText();
    }

    // ---- breads

    public int open(int group, int salt, boolean isSticky)
            throws IllegalArgumentException, IllegalStateException {
        if (group != NONE && !isGroup(group)) {
            throw new IllegalArgumentException("no such group");
        }
        needSalt(salt);
        if (town.breads >= BREADS) {
            throw new IllegalStateException("there are 8 breads");
        }
        history.save(town);
        return town.addBread(group, salt, isSticky);
    }

    public int end(int bread) throws IndexOutOfBoundsException, IllegalStateException {
        needBread(bread);
        needOpen(bread);
        history.save(town);
        town.closeBread(bread);
        return town.personsWith(town.ate, bread);
    }

    public int raise(int bread, int share)
            throws IndexOutOfBoundsException, IllegalArgumentException, IllegalStateException {
        needBread(bread);
        needShare(share);
        if (!town.canRaise(bread, share)) {
            throw new IllegalStateException("it can't be raised to that");
        }
        history.save(town);
        int before = town.eaters(bread);
        town.raiseTo(bread, share);
        return town.eaters(bread) - before;
    }

    public int lower(int bread, int share)
            throws IndexOutOfBoundsException, IllegalArgumentException, IllegalStateException {
        needBread(bread);
        needShare(share);
        if (!town.canLower(bread, share)) {
            throw new IllegalStateException("it can't be lowered to that");
        }
        history.save(town);
        int before = town.eaters(bread);
        town.lowerTo(bread, share);
        return before - town.eaters(bread);
    }

    public int resalt(int bread, int salt)
            throws IndexOutOfBoundsException, IllegalArgumentException, IllegalStateException {
        needBread(bread);
        needSalt(salt);
        needOpen(bread);
        if (town.isInGroup(bread)) {
            throw new IllegalStateException("it goes by the salt of its group");
        }
        history.save(town);
        int changed = town.changedBySalt(bread, salt);
        town.salt[bread] = salt;
        return changed;
    }

    public int shake(int group, int salt) throws IndexOutOfBoundsException, IllegalArgumentException {
        needGroup(group);
        needSalt(salt);
        history.save(town);
        int previous = town.groupSalt[group];
        town.groupSalt[group] = salt;
        return previous;
    }

    // ---- persons, days

    public int hold(int person, int bread, boolean isIn)
            throws IndexOutOfBoundsException, IllegalStateException {
        needPerson(person);
        needBread(bread);
        needOpen(bread);
        history.save(town);
        boolean before = town.isEating(person, bread);
        town.setHold(person, bread, isIn);
        return town.isEating(person, bread) == before ? 0 : 1;
    }

    public int letGo(int person, int bread) throws IndexOutOfBoundsException, IllegalStateException {
        needPerson(person);
        needBread(bread);
        if (!town.isHeld(person, bread)) {
            throw new IllegalStateException("the person is not held for it");
        }
        history.save(town);
        boolean before = town.isEating(person, bread);
        town.dropHold(person, bread);
        return town.isEating(person, bread) == before ? 0 : 1;
    }

    public int pass(int days) throws IllegalArgumentException {
        if (days < 1 || days > MAX_DAYS) {
            throw new IllegalArgumentException("days are 1 to 50");
        }
        history.save(town);
        int before = town.servings;
        town.letPass(days);
        return town.servings - before;
    }

    // ---- texts

    public int append(int code) throws IllegalArgumentException, IllegalStateException {
        if (code < 33 || code > 126) {
            throw new IllegalArgumentException("a code is 33 to 126");
        }
        if (text.isFull()) {
            throw new IllegalStateException("the buffer is full");
        }
        text.add(code);
        return text.length;
    }

    public int clearBuffer() {
        int had = text.length;
        text.length = 0;
        return had;
    }

    public int firstError() {
        return text.errorIndex();
    }

    public int run() throws IllegalArgumentException {
        if (!text.isComplete()) {
            throw new IllegalArgumentException("no complete row of commands");
        }
        history.save(town);
        int carriedOut = carryOutAll();
        text.length = 0;
        return carriedOut;
    }

    public int undo() throws IllegalStateException {
        if (history.size == 0) {
            throw new IllegalStateException("no state is saved");
        }
        history.restore(town);
        return history.size;
    }

    // ---- what there is

    public int eats(int person, int bread) throws IndexOutOfBoundsException {
        needPerson(person);
        needBread(bread);
        return town.reasonBy(person, bread, town.saltOf(bread));
    }

    public int bucket(int person, int bread) throws IndexOutOfBoundsException {
        needPerson(person);
        needBread(bread);
        return bucketBy(person, town.saltOf(bread));
    }

    public int bread(int bread, int what) throws IndexOutOfBoundsException, IllegalArgumentException {
        needBread(bread);
        if (what < 0 || what > 11) {
            throw new IllegalArgumentException("no such property of a bread");
        }
        return town.breadProperty(bread, what);
    }

    public int person(int person, int what) throws IndexOutOfBoundsException, IllegalArgumentException {
        needPerson(person);
        if (what < 0 || what > 4) {
            throw new IllegalArgumentException("no such property of a person");
        }
        return town.personProperty(person, what);
    }

    public int owner(int group, int bucket) throws IndexOutOfBoundsException {
        needGroup(group);
        if (bucket < 0 || bucket >= BUCKETS) {
            throw new IndexOutOfBoundsException("no such bucket");
        }
        return town.ownerOf[group * BUCKETS + bucket];
    }

    public int count(int what) throws IllegalArgumentException {
        if (!isCounted(what)) {
            throw new IllegalArgumentException("nothing is counted by that number");
        }
        return numberOf(what);
    }

    // ---- what would be; nothing is changed

    public int overlap(int a, int b) throws IndexOutOfBoundsException {
        needBread(a);
        needBread(b);
        return town.eatersOfBoth(a, b);
    }

    public int ifShare(int bread, int share) throws IndexOutOfBoundsException, IllegalArgumentException {
        needBread(bread);
        needShare(share);
        return outlook.eatersAt(town, bread, share);
    }

    public int shareFor(int bread, int many) throws IndexOutOfBoundsException, IllegalArgumentException {
        needBread(bread);
        if (many < 0 || many > PERSONS) {
            throw new IllegalArgumentException("there are 0 to 150 eaters");
        }
        return outlook.leastShare(town, bread, many);
    }

    public int bestSalt(int bread, int from) throws IndexOutOfBoundsException, IllegalArgumentException {
        needBread(bread);
        needSalt(from);
        return bestSaltFrom(bread, from);
    }

    public int nextEater(int bread) throws IndexOutOfBoundsException {
        needBread(bread);
        return outlook.firstNewcomer(town, bread);
    }

    public double part(int bread) throws IndexOutOfBoundsException {
        needBread(bread);
        return partOf(bread);
    }

    public long digest() {
        long hash = 2459L;
        for (int what = 0; what <= 22; what++) {
            if (isCounted(what)) {
                hash = 31 * hash + numberOf(what);
            }
        }
        for (int bread = 0; bread < town.breads && bread < BREADS; bread++) {
            hash = hashWithBread(hash, bread);
        }
        hash = hashWithPersons(hash);
        for (int i = 0; i < GROUPS * BUCKETS; i++) {
            hash = 31 * hash + town.ownerOf[i];
        }
        hash = 31 * hash + text.length;
        for (int i = 0; i < text.length && i < TEXT; i++) {
            hash = 31 * hash + text.codes[i];
        }
        return hash;
    }

    // What a call needs, and throws without it.

    private void needBread(int bread) {
        if (!town.hasBread(bread)) {
            throw new IndexOutOfBoundsException("no such bread");
        }
    }

    private void needOpen(int bread) {
        if (!town.isOpenBread(bread)) {
            throw new IllegalStateException("it has ended");
        }
    }

    private static void needPerson(int person) {
        if (person < 0 || person >= PERSONS) {
            throw new IndexOutOfBoundsException("no such person");
        }
    }

    private static void needGroup(int group) {
        if (!isGroup(group)) {
            throw new IndexOutOfBoundsException("no such group");
        }
    }

    private static void needSalt(int salt) {
        if (salt < 0 || salt > MAX_SALT) {
            throw new IllegalArgumentException("a salt is 0 to 9999");
        }
    }

    private static void needShare(int share) {
        if (share < 0 || share > MAX_SHARE) {
            throw new IllegalArgumentException("a share is 0 to 100");
        }
    }

    private static boolean isGroup(int group) {
        return group >= 0 && group < GROUPS;
    }

    private static boolean isCounted(int what) {
        return what >= 0 && what <= 8 || what >= 10 && what <= 12 || what >= 20 && what <= 22;
    }

    /** The mixed number by which a person comes into a bucket. */
    private static int bucketBy(int person, int salt) {
        int x = person * -1640531535 + salt * 40503;
        x = x ^ (x >>> 15);
        x = x * -2048144777;
        x = x ^ (x >>> 13);
        x = x * -1028477379;
        x = x ^ (x >>> 16);
        return (x & 0x7fffffff) % BUCKETS;
    }

    private int carryOutAll() {
        text.restart();
        int done = 0;
        while (done < TEXT && text.readCommand() && carryOut()) {
            done++;
        }
        return done;
    }

    /** Carries out the command that was just read, unless its method would throw. */
    private boolean carryOut() {
        switch (text.kind) {
            case '+':
                return town.tryRaise(text.bread, text.number);
            case '-':
                return town.tryLower(text.bread, text.number);
            case 'i':
                return town.tryHold(text.number, text.bread, true);
            case 'o':
                return town.tryHold(text.number, text.bread, false);
            case 'x':
                return town.tryClose(text.bread);
            case 'd':
                town.letPass(text.number);
                return true;
            default:
                return false;
        }
    }

    private int numberOf(int what) {
        if (what == 8) {
            return history.size;
        }
        if (isGroup(what - 10)) {
            return town.groupSalt[what - 10];
        }
        if (isGroup(what - 20)) {
            return town.freeBuckets(what - 20);
        }
        return town.number(what);
    }

    private int bestSaltFrom(int bread, int from) {
        if (!town.isOpenBread(bread) || town.isInGroup(bread)) {
            return NONE;
        }
        int best = NONE;
        int most = -1;
        for (int salt = from; salt < from + SALTS_TRIED && salt <= MAX_SALT; salt++) {
            int eaters = town.eatersBy(bread, salt);
            if (eaters > most) {
                most = eaters;
                best = salt;
            }
        }
        return best;
    }

    private double partOf(int bread) {
        return (double) town.eaters(bread) / 150.0;
    }

    private long hashWithBread(long start, int bread) {
        long hash = start;
        for (int what = 0; what <= 11; what++) {
            hash = 31 * hash + town.breadProperty(bread, what);
        }
        hash = 31 * hash + town.eatersOfBoth(bread, 0);
        hash = 31 * hash + outlook.eatersAt(town, bread, 50);
        hash = 31 * hash + outlook.leastShare(town, bread, 75);
        hash = 31 * hash + bestSaltFrom(bread, 100);
        hash = 31 * hash + outlook.firstNewcomer(town, bread);
        hash = 31 * hash + bitsOf(partOf(bread));
        int salt = town.saltOf(bread);
        for (int person = 0; person < PERSONS; person++) {
            hash = 31 * hash + town.reasonBy(person, bread, salt);
        }
        return hash;
    }

    private long hashWithPersons(long start) {
        long hash = start;
        for (int person = 0; person < PERSONS; person++) {
            for (int what = 0; what <= 4; what++) {
                hash = 31 * hash + town.personProperty(person, what);
            }
        }
        return hash;
    }

    /** The bits of a double from 0 to 1, worked out here because the language has no function for them. */
    private static long bitsOf(double part) {
        if (part <= 0.0) {
            return 0L;
        }
        double scaled = part;
        long exponent = 1023;
        for (int i = 0; i < 64 && scaled < 1.0; i++) {
            scaled = scaled * 2.0;
            exponent--;
        }
        long fraction = (long) ((scaled - 1.0) * 4503599627370496.0);
        return (exponent << 52) + fraction;
    }

    /** All that undo brings back. Its methods take numbers of breads, persons and groups that there are. */
    private static final class Town {
        int breads;
        int day;
        int servings;
        /** A bit for each bread. */
        private int openOnes;
        private int stickyOnes;
        final int[] groupOf = new int[BREADS];
        final int[] salt = new int[BREADS];
        final int[] share = new int[BREADS];
        final int[] servingsOf = new int[BREADS];
        final int[] groupSalt = new int[GROUPS];
        /** By group * 100 + bucket. */
        final int[] ownerOf = new int[GROUPS * BUCKETS];
        /** These three by person, and in each a bit for each bread. */
        final int[] heldIn = new int[PERSONS];
        final int[] heldOut = new int[PERSONS];
        final int[] ate = new int[PERSONS];
        final int[] servingsTo = new int[PERSONS];

        Town() {
            for (int group = 0; group < GROUPS; group++) {
                groupSalt[group] = 11 * (group + 1);
            }
            for (int i = 0; i < GROUPS * BUCKETS; i++) {
                ownerOf[i] = NONE;
            }
        }

        void copyFrom(Town other) {
            breads = other.breads;
            day = other.day;
            servings = other.servings;
            openOnes = other.openOnes;
            stickyOnes = other.stickyOnes;
            System.arraycopy(other.groupOf, 0, groupOf, 0, BREADS);
            System.arraycopy(other.salt, 0, salt, 0, BREADS);
            System.arraycopy(other.share, 0, share, 0, BREADS);
            System.arraycopy(other.servingsOf, 0, servingsOf, 0, BREADS);
            System.arraycopy(other.groupSalt, 0, groupSalt, 0, GROUPS);
            System.arraycopy(other.ownerOf, 0, ownerOf, 0, GROUPS * BUCKETS);
            System.arraycopy(other.heldIn, 0, heldIn, 0, PERSONS);
            System.arraycopy(other.heldOut, 0, heldOut, 0, PERSONS);
            System.arraycopy(other.ate, 0, ate, 0, PERSONS);
            System.arraycopy(other.servingsTo, 0, servingsTo, 0, PERSONS);
        }

        boolean hasBread(int bread) {
            return bread >= 0 && bread < breads && bread < BREADS;
        }

        boolean isOpenBread(int bread) {
            return hasBread(bread) && (openOnes >> bread & 1) != 0;
        }

        boolean isInGroup(int bread) {
            return isGroup(groupOf[bread]);
        }

        int saltOf(int bread) {
            int group = groupOf[bread];
            return isGroup(group) ? groupSalt[group] : salt[bread];
        }

        boolean owns(int bread, int bucket) {
            int group = groupOf[bread];
            if (group >= 0 && group < GROUPS) {
                return ownerOf[group * BUCKETS + bucket] == bread;
            }
            return bucket < share[bread];
        }

        int freeBuckets(int group) {
            int free = 0;
            for (int bucket = 0; bucket < BUCKETS; bucket++) {
                if (ownerOf[group * BUCKETS + bucket] == NONE) {
                    free++;
                }
            }
            return free;
        }

        // Changes. Each one asks for what the document asks of its method.

        int addBread(int group, int itsSalt, boolean sticky) {
            int bread = breads;
            if (bread >= BREADS) {
                return NONE;
            }
            int bit = 1 << bread;
            openOnes |= bit;
            stickyOnes = sticky ? stickyOnes | bit : stickyOnes & ~bit;
            groupOf[bread] = group;
            salt[bread] = itsSalt;
            share[bread] = 0;
            servingsOf[bread] = 0;
            breads = bread + 1;
            return bread;
        }

        void closeBread(int bread) {
            lowerTo(bread, 0);
            openOnes &= ~(1 << bread);
        }

        boolean canRaise(int bread, int to) {
            if (!isOpenBread(bread) || to < share[bread]) {
                return false;
            }
            int group = groupOf[bread];
            return !isGroup(group) || to - share[bread] <= freeBuckets(group);
        }

        boolean canLower(int bread, int to) {
            return isOpenBread(bread) && to <= share[bread];
        }

        void raiseTo(int bread, int to) {
            int group = groupOf[bread];
            if (isGroup(group)) {
                takeLowest(bread, group * BUCKETS, to - share[bread]);
            }
            share[bread] = to;
        }

        private void takeLowest(int bread, int first, int many) {
            int left = many;
            for (int i = first; i < first + BUCKETS && left > 0; i++) {
                if (ownerOf[i] == NONE) {
                    ownerOf[i] = bread;
                    left--;
                }
            }
        }

        void lowerTo(int bread, int to) {
            int group = groupOf[bread];
            if (isGroup(group)) {
                loseHighest(bread, group * BUCKETS, share[bread] - to);
            }
            share[bread] = to;
        }

        private void loseHighest(int bread, int first, int many) {
            int left = many;
            for (int i = first + BUCKETS - 1; i >= first && left > 0; i--) {
                if (ownerOf[i] == bread) {
                    ownerOf[i] = NONE;
                    left--;
                }
            }
        }

        void setHold(int person, int bread, boolean isIn) {
            dropHold(person, bread);
            if (isIn) {
                heldIn[person] |= 1 << bread;
            } else {
                heldOut[person] |= 1 << bread;
            }
        }

        void dropHold(int person, int bread) {
            heldIn[person] &= ~(1 << bread);
            heldOut[person] &= ~(1 << bread);
        }

        /** Who eats a bread goes on eating it from day to day, so one look serves all the days. */
        void letPass(int days) {
            for (int person = 0; person < PERSONS; person++) {
                int eaten = breadsEatenBy(person);
                for (int bread = 0; bread < BREADS; bread++) {
                    if ((eaten >> bread & 1) != 0) {
                        servingsOf[bread] += days;
                    }
                }
                ate[person] |= eaten;
                int its = days * Integer.bitCount(eaten);
                servingsTo[person] += its;
                servings += its;
            }
            day += days;
        }

        // The same for a command of a text: false, and no change, where the method would throw.

        boolean tryRaise(int bread, int to) {
            boolean can = canRaise(bread, to);
            if (can) {
                raiseTo(bread, to);
            }
            return can;
        }

        boolean tryLower(int bread, int to) {
            boolean can = canLower(bread, to);
            if (can) {
                lowerTo(bread, to);
            }
            return can;
        }

        boolean tryHold(int person, int bread, boolean isIn) {
            boolean can = person >= 0 && person < PERSONS && isOpenBread(bread);
            if (can) {
                setHold(person, bread, isIn);
            }
            return can;
        }

        boolean tryClose(int bread) {
            boolean can = isOpenBread(bread);
            if (can) {
                closeBread(bread);
            }
            return can;
        }

        // Who eats

        boolean isHeld(int person, int bread) {
            return ((heldIn[person] | heldOut[person]) >> bread & 1) != 0;
        }

        boolean isHeldOut(int person, int bread) {
            return (heldOut[person] >> bread & 1) != 0;
        }

        /** Whether the person eats the bread, if it is open, whatever buckets it owns. */
        boolean isSure(int person, int bread) {
            int bit = 1 << bread;
            if ((heldOut[person] & bit) != 0) {
                return false;
            }
            return (heldIn[person] & bit) != 0 || (stickyOnes & ate[person] & bit) != 0;
        }

        boolean isEating(int person, int bread) {
            return reasonBy(person, bread, saltOf(bread)) != NOT_EATEN;
        }

        int reasonBy(int person, int bread, int itsSalt) {
            int bit = 1 << bread;
            if ((openOnes & ~heldOut[person] & bit) == 0) {
                return NOT_EATEN;
            }
            if ((heldIn[person] & bit) != 0) {
                return BY_HOLD;
            }
            if (owns(bread, bucketBy(person, itsSalt))) {
                return BY_BUCKET;
            }
            return (stickyOnes & ate[person] & bit) != 0 ? BY_STICKING : NOT_EATEN;
        }

        int breadsEatenBy(int person) {
            int eaten = 0;
            for (int bread = 0; bread < BREADS; bread++) {
                if (reasonBy(person, bread, saltOf(bread)) != NOT_EATEN) {
                    eaten |= 1 << bread;
                }
            }
            return eaten;
        }

        int eaters(int bread) {
            return eatersBy(bread, saltOf(bread));
        }

        int eatersBy(int bread, int itsSalt) {
            int many = 0;
            for (int person = 0; person < PERSONS; person++) {
                if (reasonBy(person, bread, itsSalt) != NOT_EATEN) {
                    many++;
                }
            }
            return many;
        }

        int eatersOfBoth(int a, int b) {
            int many = 0;
            for (int person = 0; person < PERSONS; person++) {
                if (isEating(person, a) && isEating(person, b)) {
                    many++;
                }
            }
            return many;
        }

        int changedBySalt(int bread, int itsSalt) {
            int changed = 0;
            for (int person = 0; person < PERSONS; person++) {
                boolean would = reasonBy(person, bread, itsSalt) != NOT_EATEN;
                if (isEating(person, bread) != would) {
                    changed++;
                }
            }
            return changed;
        }

        // What there is

        int breadProperty(int bread, int what) {
            switch (what) {
                case 0:
                    return openOnes >> bread & 1;
                case 1:
                    return groupOf[bread];
                case 2:
                    return saltOf(bread);
                case 3:
                    return share[bread];
                case 4:
                    return stickyOnes >> bread & 1;
                case 5:
                    return eaters(bread);
                case 6:
                    return personsWith(ate, bread);
                case 7:
                    return servingsOf[bread];
                case 8:
                    return personsWith(heldIn, bread);
                case 9:
                    return personsWith(heldOut, bread);
                case 10:
                    return lowestBucket(bread);
                default:
                    return highestBucket(bread);
            }
        }

        int personsWith(int[] masks, int bread) {
            int many = 0;
            for (int person = 0; person < masks.length; person++) {
                many += masks[person] >> bread & 1;
            }
            return many;
        }

        private int lowestBucket(int bread) {
            for (int bucket = 0; bucket < BUCKETS; bucket++) {
                if (owns(bread, bucket)) {
                    return bucket;
                }
            }
            return NONE;
        }

        private int highestBucket(int bread) {
            for (int bucket = BUCKETS - 1; bucket >= 0; bucket--) {
                if (owns(bread, bucket)) {
                    return bucket;
                }
            }
            return NONE;
        }

        int personProperty(int person, int what) {
            switch (what) {
                case 0:
                    return breadsEatenBy(person);
                case 1:
                    return ate[person];
                case 2:
                    return heldIn[person];
                case 3:
                    return heldOut[person];
                default:
                    return servingsTo[person];
            }
        }

        int number(int what) {
            switch (what) {
                case 0:
                    return breads;
                case 1:
                    return Integer.bitCount(openOnes);
                case 2:
                    return day;
                case 3:
                    return servings;
                case 4:
                    return personsWhoEat();
                case 5:
                    return personsWhoAte();
                case 6:
                    return personsWithTwoOfAGroup();
                default:
                    return holds();
            }
        }

        private int personsWhoEat() {
            int many = 0;
            for (int person = 0; person < PERSONS; person++) {
                if (breadsEatenBy(person) != 0) {
                    many++;
                }
            }
            return many;
        }

        private int personsWhoAte() {
            int many = 0;
            for (int person = 0; person < PERSONS; person++) {
                if (ate[person] != 0) {
                    many++;
                }
            }
            return many;
        }

        private int personsWithTwoOfAGroup() {
            int many = 0;
            for (int person = 0; person < PERSONS; person++) {
                if (hasTwoOfAGroup(breadsEatenBy(person))) {
                    many++;
                }
            }
            return many;
        }

        private boolean hasTwoOfAGroup(int eaten) {
            for (int group = 0; group < GROUPS; group++) {
                if (Integer.bitCount(eaten & breadsOfGroup(group)) >= 2) {
                    return true;
                }
            }
            return false;
        }

        private int breadsOfGroup(int group) {
            int mask = 0;
            for (int bread = 0; bread < BREADS; bread++) {
                if (groupOf[bread] == group) {
                    mask |= 1 << bread;
                }
            }
            return mask;
        }

        private int holds() {
            int many = 0;
            for (int person = 0; person < PERSONS; person++) {
                many += Integer.bitCount(heldIn[person]) + Integer.bitCount(heldOut[person]);
            }
            return many;
        }
    }

    /** The saved states, in towns that are made once and written over again and again. */
    private static final class History {
        int size;
        private int oldest;
        private final Town[] towns = new Town[SAVED];

        History() {
            for (int i = 0; i < SAVED; i++) {
                towns[i] = new Town();
            }
        }

        void save(Town now) {
            if (size == SAVED) {
                oldest = (oldest + 1) % SAVED;
                size--;
            }
            Town slot = latestAfter(size);
            if (slot != null) {
                slot.copyFrom(now);
                size++;
            }
        }

        void restore(Town now) {
            if (size == 0) {
                return;
            }
            Town slot = latestAfter(size - 1);
            if (slot != null) {
                now.copyFrom(slot);
                size--;
            }
        }

        /** The place that follows on so many saved states. */
        private Town latestAfter(int many) {
            int place = (oldest + many) % SAVED;
            return place >= 0 && place < towns.length ? towns[place] : null;
        }
    }

    /**
     * What would be with other shares of a bread. A bread goes up and down one fixed row of buckets: first
     * those that it owns, then those that it would get, both from the lowest on.
     */
    private static final class Outlook {
        private final int[] row = new int[BUCKETS];
        private int reach;
        /** Persons who eat the bread whatever its share is. */
        private int sure;
        /** By bucket: how many persons eat the bread only if it owns that one, and the first of them. */
        private final int[] newcomers = new int[BUCKETS];
        private final int[] first = new int[BUCKETS];

        int eatersAt(Town town, int bread, int share) {
            if (!town.isOpenBread(bread)) {
                return NONE;
            }
            lookAt(town, bread);
            if (share > reach) {
                return NONE;
            }
            int eaters = sure;
            for (int i = 0; i < share && i < BUCKETS; i++) {
                eaters += newcomers[row[i]];
            }
            return eaters;
        }

        int leastShare(Town town, int bread, int many) {
            if (!town.isOpenBread(bread)) {
                return NONE;
            }
            lookAt(town, bread);
            int eaters = sure;
            for (int i = 0; i < reach && i < BUCKETS; i++) {
                if (eaters >= many) {
                    return i;
                }
                eaters += newcomers[row[i]];
            }
            return eaters >= many ? reach : NONE;
        }

        int firstNewcomer(Town town, int bread) {
            if (!town.isOpenBread(bread)) {
                return NONE;
            }
            lookAt(town, bread);
            for (int i = town.share[bread]; i < reach && i < BUCKETS; i++) {
                if (newcomers[row[i]] > 0) {
                    return first[row[i]];
                }
            }
            return NONE;
        }

        private void lookAt(Town town, int bread) {
            lookAtBuckets(town, bread);
            lookAtPersons(town, bread);
        }

        private void lookAtBuckets(Town town, int bread) {
            int group = town.groupOf[bread];
            reach = 0;
            for (int bucket = 0; bucket < BUCKETS; bucket++) {
                if (town.owns(bread, bucket)) {
                    addToRow(bucket);
                }
            }
            for (int bucket = 0; bucket < BUCKETS; bucket++) {
                boolean isFree = isGroup(group)
                        ? town.ownerOf[group * BUCKETS + bucket] == NONE
                        : bucket >= town.share[bread];
                if (isFree) {
                    addToRow(bucket);
                }
            }
        }

        private void addToRow(int bucket) {
            if (reach < BUCKETS) {
                row[reach] = bucket;
                reach++;
            }
        }

        private void lookAtPersons(Town town, int bread) {
            int salt = town.saltOf(bread);
            sure = 0;
            for (int bucket = 0; bucket < BUCKETS; bucket++) {
                newcomers[bucket] = 0;
            }
            for (int person = PERSONS - 1; person >= 0; person--) {
                if (town.isSure(person, bread)) {
                    sure++;
                } else if (!town.isHeldOut(person, bread)) {
                    int bucket = bucketBy(person, salt);
                    newcomers[bucket]++;
                    first[bucket] = person;
                }
            }
        }
    }

    /** The buffer, and a reader that goes through it character by character. */
    private static final class CommandText {
        // Where in a command the reader stands: what it waits for.
        private static final int KIND = 0;
        private static final int BREAD = 1;
        private static final int EQUALS = 2;
        private static final int FIRST_DIGIT = 3;
        private static final int NEXT_DIGIT = 4;
        private static final int SEMICOLON = 5;

        final int[] codes = new int[TEXT];
        int length;
        private int at;
        private int place;
        // What it has read of the command.
        int kind;
        int bread;
        int number;

        boolean isFull() {
            return length >= TEXT;
        }

        void add(int code) {
            if (length >= 0 && length < TEXT) {
                codes[length] = code;
                length++;
            }
        }

        int errorIndex() {
            restart();
            for (int i = 0; i < length && i < TEXT; i++) {
                if (!take(codes[i])) {
                    return i;
                }
            }
            return length;
        }

        boolean isComplete() {
            return errorIndex() == length && (place == SEMICOLON || place == NEXT_DIGIT && !isHoldKind());
        }

        void restart() {
            at = 0;
            place = KIND;
        }

        /** Reads one command of a complete row; false if none is left. */
        boolean readCommand() {
            boolean any = at < length;
            boolean isWithin = any;
            while (isWithin && at < length && at < TEXT) {
                int code = codes[at];
                isWithin = take(code) && code != ';';
                at++;
            }
            return any;
        }

        /** Takes a character if some row of commands goes on with it. */
        private boolean take(int code) {
            switch (place) {
                case KIND:
                    return takeKind(code);
                case BREAD:
                    return takeBread(code);
                case EQUALS:
                    return takeSign(code, '=', FIRST_DIGIT);
                case FIRST_DIGIT:
                    return takeFirstDigit(code);
                case NEXT_DIGIT:
                    return isDigit(code) ? takeNextDigit(code) : takeEndOfNumber(code);
                default:
                    return takeSign(code, ';', KIND);
            }
        }

        private boolean takeSign(int code, char sign, int next) {
            if (code != sign) {
                return false;
            }
            place = next;
            return true;
        }

        private boolean takeKind(int code) {
            kind = code;
            switch (code) {
                case '+':
                case '-':
                case 'x':
                    place = BREAD;
                    return true;
                case 'i':
                case 'o':
                case 'd':
                    place = FIRST_DIGIT;
                    return true;
                default:
                    return false;
            }
        }

        private boolean takeBread(int code) {
            if (code < '0' || code > '7') {
                return false;
            }
            bread = code - '0';
            place = kind == '+' || kind == '-' ? EQUALS : SEMICOLON;
            return true;
        }

        private boolean takeFirstDigit(int code) {
            if (!isDigit(code) || code == '0' && kind == 'd') {
                return false;
            }
            number = code - '0';
            place = NEXT_DIGIT;
            return true;
        }

        private boolean takeNextDigit(int code) {
            int longer = 10 * number + code - '0';
            if (number == 0 || longer > greatestNumber()) {
                return false;
            }
            number = longer;
            return true;
        }

        private boolean takeEndOfNumber(int code) {
            return isHoldKind() ? takeSign(code, '@', BREAD) : takeSign(code, ';', KIND);
        }

        private int greatestNumber() {
            if (isHoldKind()) {
                return PERSONS - 1;
            }
            return kind == 'd' ? MAX_DAYS : MAX_SHARE;
        }

        private boolean isHoldKind() {
            return kind == 'i' || kind == 'o';
        }

        private static boolean isDigit(int code) {
            return code >= '0' && code <= '9';
        }
    }
}
