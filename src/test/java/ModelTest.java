import java.math.BigInteger;
import java.util.ArrayDeque;
import java.util.ArrayList;
import java.util.Deque;
import java.util.HashMap;
import java.util.List;
import java.util.Map;
import java.util.NavigableSet;
import java.util.Random;
import java.util.Set;
import java.util.TreeSet;

/** Plays random runs on SaltShares and on a naive model of the document, and compares all answers. */
public final class ModelTest {
    private static final int RUNS = 250;
    private static final int CALLS = 512;

    /** One bread of the model. */
    private static final class Bread {
        boolean open = true;
        int group;
        int salt;
        boolean sticky;
        TreeSet<Integer> owned = new TreeSet<>();
        TreeSet<Integer> in = new TreeSet<>();
        TreeSet<Integer> out = new TreeSet<>();
        TreeSet<Integer> ate = new TreeSet<>();
        int servings;

        Bread copy() {
            Bread copy = new Bread();
            copy.open = open;
            copy.group = group;
            copy.salt = salt;
            copy.sticky = sticky;
            copy.owned.addAll(owned);
            copy.in.addAll(in);
            copy.out.addAll(out);
            copy.ate.addAll(ate);
            copy.servings = servings;
            return copy;
        }
    }

    /** All that is saved. */
    private static final class State {
        List<Bread> breads = new ArrayList<>();
        int[] salts = {11, 22, 33};
        int day;
        int[] servingsTo = new int[150];

        State copy() {
            State copy = new State();
            for (Bread bread : breads) {
                copy.breads.add(bread.copy());
            }
            copy.salts = salts.clone();
            copy.day = day;
            copy.servingsTo = servingsTo.clone();
            return copy;
        }

        int saltOf(Bread bread) {
            return bread.group < 0 ? bread.salt : salts[bread.group];
        }

        int bucket(int person, Bread bread) {
            return ModelTest.bucket(person, saltOf(bread));
        }

        boolean eats(int person, Bread bread) {
            if (!bread.open) {
                return false;
            }
            if (bread.in.contains(person)) {
                return true;
            }
            boolean held = bread.out.contains(person);
            return !held && bread.sticky && bread.ate.contains(person)
                    || !held && bread.owned.contains(bucket(person, bread));
        }

        TreeSet<Integer> eaters(Bread bread) {
            TreeSet<Integer> eaters = new TreeSet<>();
            for (int person = 0; person < 150; person++) {
                if (eats(person, bread)) {
                    eaters.add(person);
                }
            }
            return eaters;
        }

        TreeSet<Integer> free(Bread bread) {
            TreeSet<Integer> free = new TreeSet<>();
            for (int bucket = 0; bucket < 100; bucket++) {
                free.add(bucket);
            }
            for (Bread other : breads) {
                if (other == bread || other.group >= 0 && other.group == bread.group) {
                    free.removeAll(other.owned);
                }
            }
            return free;
        }

        /** Raises or lowers it one bucket after the other; false if that is not possible. */
        boolean setShare(int number, int share, boolean mayRaise, boolean mayLower) {
            if (number >= breads.size() || !breads.get(number).open) {
                return false;
            }
            Bread bread = breads.get(number);
            int own = bread.owned.size();
            if (share > own && (!mayRaise || share - own > free(bread).size()) || share < own && !mayLower) {
                return false;
            }
            while (bread.owned.size() < share) {
                bread.owned.add(free(bread).first());
            }
            while (bread.owned.size() > share) {
                bread.owned.pollLast();
            }
            return true;
        }

        boolean close(int number) {
            if (number >= breads.size() || !breads.get(number).open) {
                return false;
            }
            breads.get(number).open = false;
            breads.get(number).owned.clear();
            return true;
        }

        boolean setHold(int person, int number, boolean isIn) {
            if (number >= breads.size() || !breads.get(number).open) {
                return false;
            }
            Bread bread = breads.get(number);
            (isIn ? bread.in : bread.out).add(person);
            (isIn ? bread.out : bread.in).remove(person);
            return true;
        }

        int pass(int days) {
            int servings = 0;
            for (int i = 0; i < days; i++) {
                day++;
                List<Set<Integer>> eaters = new ArrayList<>();
                for (Bread bread : breads) {
                    eaters.add(eaters(bread));
                }
                for (int b = 0; b < breads.size(); b++) {
                    Bread bread = breads.get(b);
                    for (int person : eaters.get(b)) {
                        bread.ate.add(person);
                        bread.servings++;
                        servingsTo[person]++;
                        servings++;
                    }
                }
            }
            return servings;
        }
    }

    /** The document, told once more as plainly as it can be. */
    private static final class Model {
        State now = new State();
        Deque<State> saved = new ArrayDeque<>();
        String text = "";

        void save() {
            saved.addLast(now.copy());
            if (saved.size() > 6) {
                saved.removeFirst();
            }
        }

        static void index(boolean fine) {
            if (!fine) {
                throw new IndexOutOfBoundsException();
            }
        }

        static void argument(boolean fine) {
            if (!fine) {
                throw new IllegalArgumentException();
            }
        }

        static void state(boolean fine) {
            if (!fine) {
                throw new IllegalStateException();
            }
        }

        static boolean within(int value, int least, int most) {
            return least <= value && value <= most;
        }

        Bread at(int bread) {
            index(within(bread, 0, now.breads.size() - 1));
            return now.breads.get(bread);
        }

        int open(int group, int salt, boolean sticky) {
            argument(within(group, -1, 2) && within(salt, 0, 9999));
            state(now.breads.size() < 8);
            save();
            Bread bread = new Bread();
            bread.group = group;
            bread.salt = salt;
            bread.sticky = sticky;
            now.breads.add(bread);
            return now.breads.size() - 1;
        }

        int end(int bread) {
            state(at(bread).open);
            save();
            now.close(bread);
            return at(bread).ate.size();
        }

        int share(int bread, int share, boolean isRaise) {
            Bread it = at(bread);
            argument(within(share, 0, 100));
            state(now.copy().setShare(bread, share, isRaise, !isRaise));
            save();
            int before = now.eaters(it).size();
            now.setShare(bread, share, isRaise, !isRaise);
            int more = now.eaters(it).size() - before;
            return isRaise ? more : -more;
        }

        int resalt(int bread, int salt) {
            Bread it = at(bread);
            argument(within(salt, 0, 9999));
            state(it.open && it.group == -1);
            save();
            Set<Integer> before = now.eaters(it);
            it.salt = salt;
            Set<Integer> after = now.eaters(it);
            int changed = 0;
            for (int person = 0; person < 150; person++) {
                changed += before.contains(person) == after.contains(person) ? 0 : 1;
            }
            return changed;
        }

        int shake(int group, int salt) {
            index(within(group, 0, 2));
            argument(within(salt, 0, 9999));
            save();
            int previous = now.salts[group];
            now.salts[group] = salt;
            return previous;
        }

        int hold(int person, int bread, boolean isIn) {
            index(within(person, 0, 149));
            Bread it = at(bread);
            state(it.open);
            save();
            boolean before = now.eats(person, it);
            now.setHold(person, bread, isIn);
            return now.eats(person, it) == before ? 0 : 1;
        }

        int letGo(int person, int bread) {
            index(within(person, 0, 149));
            Bread it = at(bread);
            state(it.in.contains(person) || it.out.contains(person));
            save();
            boolean before = now.eats(person, it);
            it.in.remove(person);
            it.out.remove(person);
            return now.eats(person, it) == before ? 0 : 1;
        }

        int pass(int days) {
            argument(within(days, 1, 50));
            save();
            return now.pass(days);
        }

        int append(int code) {
            argument(within(code, 33, 126));
            state(text.length() < 60);
            text += (char) code;
            return text.length();
        }

        int clearBuffer() {
            int had = text.length();
            text = "";
            return had;
        }

        int firstError() {
            for (int i = 0; i < text.length(); i++) {
                if (!begins(text.substring(0, i + 1))) {
                    return i;
                }
            }
            return text.length();
        }

        static boolean begins(String start) {
            String[] pieces = start.split(";", -1);
            for (int i = 0; i < pieces.length - 1; i++) {
                if (!COMMANDS.contains(pieces[i])) {
                    return false;
                }
            }
            String last = pieces[pieces.length - 1];
            String next = COMMANDS.ceiling(last);
            return next != null && next.startsWith(last);
        }

        int run() {
            String[] pieces = text.split(";", -1);
            for (String piece : pieces) {
                argument(COMMANDS.contains(piece));
            }
            save();
            text = "";
            int done = 0;
            while (done < pieces.length && carryOut(pieces[done])) {
                done++;
            }
            return done;
        }

        boolean carryOut(String command) {
            char kind = command.charAt(0);
            String rest = command.substring(1);
            if (kind == 'x') {
                return now.close(Integer.parseInt(rest));
            }
            if (kind == 'd') {
                now.pass(Integer.parseInt(rest));
                return true;
            }
            if (kind == 'i' || kind == 'o') {
                String[] two = rest.split("@");
                return now.setHold(Integer.parseInt(two[0]), Integer.parseInt(two[1]), kind == 'i');
            }
            String[] two = rest.split("=");
            return now.setShare(Integer.parseInt(two[0]), Integer.parseInt(two[1]), kind == '+', kind == '-');
        }

        int undo() {
            state(!saved.isEmpty());
            now = saved.removeLast();
            return saved.size();
        }

        int eats(int person, int bread) {
            index(within(person, 0, 149));
            Bread it = at(bread);
            if (!now.eats(person, it)) {
                return 0;
            }
            return it.in.contains(person) ? 1 : it.owned.contains(now.bucket(person, it)) ? 3 : 2;
        }

        int bucket(int person, int bread) {
            index(within(person, 0, 149));
            return now.bucket(person, at(bread));
        }

        int bread(int bread, int what) {
            Bread it = at(bread);
            switch (what) {
                case 0: return it.open ? 1 : 0;
                case 1: return it.group;
                case 2: return now.saltOf(it);
                case 3: return it.owned.size();
                case 4: return it.sticky ? 1 : 0;
                case 5: return now.eaters(it).size();
                case 6: return it.ate.size();
                case 7: return it.servings;
                case 8: return it.in.size();
                case 9: return it.out.size();
                case 10: return it.owned.isEmpty() ? -1 : it.owned.first();
                case 11: return it.owned.isEmpty() ? -1 : it.owned.last();
                default: throw new IllegalArgumentException();
            }
        }

        int person(int person, int what) {
            index(within(person, 0, 149));
            argument(within(what, 0, 4));
            if (what == 4) {
                return now.servingsTo[person];
            }
            int mask = 0;
            for (int b = 0; b < now.breads.size(); b++) {
                Bread it = now.breads.get(b);
                boolean isSet = what == 0 ? now.eats(person, it)
                        : (what == 1 ? it.ate : what == 2 ? it.in : it.out).contains(person);
                mask += isSet ? 1 << b : 0;
            }
            return mask;
        }

        int owner(int group, int bucket) {
            index(within(group, 0, 2) && within(bucket, 0, 99));
            for (int b = 0; b < now.breads.size(); b++) {
                Bread it = now.breads.get(b);
                if (it.group == group && it.owned.contains(bucket)) {
                    return b;
                }
            }
            return -1;
        }

        int count(int what) {
            argument(within(what, 0, 8) || within(what, 10, 12) || within(what, 20, 22));
            int sum = 0;
            for (Bread it : now.breads) {
                sum += what == 0 || what == 1 && it.open ? 1 : 0;
                sum += what == 3 ? it.servings : 0;
                sum += what == 7 ? it.in.size() + it.out.size() : 0;
            }
            for (int person = 0; person < 150; person++) {
                sum += what == 4 && person(person, 0) != 0 ? 1 : 0;
                sum += what == 5 && person(person, 1) != 0 ? 1 : 0;
                sum += what == 6 && eatsTwoOfAGroup(person) ? 1 : 0;
            }
            for (int bucket = 0; what >= 20 && bucket < 100; bucket++) {
                sum += owner(what - 20, bucket) == -1 ? 1 : 0;
            }
            return what == 2 ? now.day : what == 8 ? saved.size() : within(what, 10, 12) ? now.salts[what - 10] : sum;
        }

        boolean eatsTwoOfAGroup(int person) {
            for (Bread a : now.breads) {
                for (Bread b : now.breads) {
                    if (a != b && a.group >= 0 && a.group == b.group && now.eats(person, a) && now.eats(person, b)) {
                        return true;
                    }
                }
            }
            return false;
        }

        int overlap(int a, int b) {
            Set<Integer> both = now.eaters(at(a));
            both.retainAll(now.eaters(at(b)));
            return both.size();
        }

        /** Who would eat it with another share; null if that is not possible. */
        Set<Integer> wouldEat(int bread, int share) {
            State copy = now.copy();
            return copy.setShare(bread, share, true, true) ? copy.eaters(copy.breads.get(bread)) : null;
        }

        int ifShare(int bread, int share) {
            at(bread);
            argument(within(share, 0, 100));
            Set<Integer> eaters = wouldEat(bread, share);
            return eaters == null ? -1 : eaters.size();
        }

        int shareFor(int bread, int many) {
            at(bread);
            argument(within(many, 0, 150));
            for (int share = 0; share <= 100; share++) {
                Set<Integer> eaters = wouldEat(bread, share);
                if (eaters != null && eaters.size() >= many) {
                    return share;
                }
            }
            return -1;
        }

        int bestSalt(int bread, int from) {
            Bread it = at(bread);
            argument(within(from, 0, 9999));
            if (!it.open || it.group >= 0) {
                return -1;
            }
            int best = -1;
            int most = -1;
            for (int salt = Math.min(from + 19, 9999); salt >= from; salt--) {
                State copy = now.copy();
                copy.breads.get(bread).salt = salt;
                int eaters = copy.eaters(copy.breads.get(bread)).size();
                if (eaters >= most) {
                    best = salt;
                    most = eaters;
                }
            }
            return best;
        }

        int nextEater(int bread) {
            Bread it = at(bread);
            for (int share = it.owned.size() + 1; share <= 100; share++) {
                Set<Integer> eaters = wouldEat(bread, share);
                if (eaters != null) {
                    eaters.removeAll(now.eaters(it));
                    if (!eaters.isEmpty()) {
                        return eaters.iterator().next();
                    }
                }
            }
            return -1;
        }

        double part(int bread) {
            return now.eaters(at(bread)).size() / 150.0;
        }

        long digest() {
            List<Long> values = new ArrayList<>();
            for (int what : new int[] {0, 1, 2, 3, 4, 5, 6, 7, 8, 10, 11, 12, 20, 21, 22}) {
                values.add((long) count(what));
            }
            for (int b = 0; b < now.breads.size(); b++) {
                for (int what = 0; what <= 11; what++) {
                    values.add((long) bread(b, what));
                }
                values.add((long) overlap(b, 0));
                values.add((long) ifShare(b, 50));
                values.add((long) shareFor(b, 75));
                values.add((long) bestSalt(b, 100));
                values.add((long) nextEater(b));
                values.add(Double.doubleToLongBits(part(b)));
                for (int person = 0; person < 150; person++) {
                    values.add((long) eats(person, b));
                }
            }
            for (int person = 0; person < 150; person++) {
                for (int what = 0; what <= 4; what++) {
                    values.add((long) person(person, what));
                }
            }
            for (int group = 0; group < 3; group++) {
                for (int bucket = 0; bucket < 100; bucket++) {
                    values.add((long) owner(group, bucket));
                }
            }
            values.add((long) text.length());
            for (char c : text.toCharArray()) {
                values.add((long) c);
            }
            BigInteger hash = BigInteger.valueOf(2459);
            for (long value : values) {
                hash = hash.multiply(BigInteger.valueOf(31)).add(BigInteger.valueOf(value));
            }
            return hash.longValue();
        }
    }

    private static final NavigableSet<String> COMMANDS = commands();
    private static final Map<Integer, Integer> BUCKETS = new HashMap<>();

    private static NavigableSet<String> commands() {
        NavigableSet<String> commands = new TreeSet<>();
        for (int bread = 0; bread < 8; bread++) {
            commands.add("x" + bread);
            for (int share = 0; share <= 100; share++) {
                commands.add("+" + bread + "=" + share);
                commands.add("-" + bread + "=" + share);
            }
            for (int person = 0; person < 150; person++) {
                commands.add("i" + person + "@" + bread);
                commands.add("o" + person + "@" + bread);
            }
        }
        for (int days = 1; days <= 50; days++) {
            commands.add("d" + days);
        }
        return commands;
    }

    private static int bucket(int person, int salt) {
        return BUCKETS.computeIfAbsent(person * 10000 + salt, key -> mixedBucket(person, salt));
    }

    /** By numbers without sign, of 32 bits. */
    private static int mixedBucket(long person, long salt) {
        long mask = 0xffffffffL;
        long x = person * (-1640531535L & mask) + salt * 40503 & mask;
        x = x ^ x / 32768;
        x = BigInteger.valueOf(x).multiply(BigInteger.valueOf(-2048144777L)).longValue() & mask;
        x = x ^ x / 8192;
        x = BigInteger.valueOf(x).multiply(BigInteger.valueOf(-1028477379L)).longValue() & mask;
        x = x ^ x / 65536;
        return (int) (x % 2147483648L % 100);
    }

    private static final String[] NAMES = {"open", "end", "raise", "lower", "resalt", "shake", "hold", "letGo", "pass",
        "append", "clearBuffer", "firstError", "run", "undo", "eats", "bucket", "bread", "person", "owner", "count",
        "overlap", "ifShare", "shareFor", "bestSalt", "nextEater", "part", "digest"};

    private static long ofClass(SaltShares x, int call, int a, int b, boolean c) {
        switch (call) {
            case 0: return x.open(a, b, c);
            case 1: return x.end(a);
            case 2: return x.raise(a, b);
            case 3: return x.lower(a, b);
            case 4: return x.resalt(a, b);
            case 5: return x.shake(a, b);
            case 6: return x.hold(a, b, c);
            case 7: return x.letGo(a, b);
            case 8: return x.pass(a);
            case 9: return x.append(a);
            case 10: return x.clearBuffer();
            case 11: return x.firstError();
            case 12: return x.run();
            case 13: return x.undo();
            case 14: return x.eats(a, b);
            case 15: return x.bucket(a, b);
            case 16: return x.bread(a, b);
            case 17: return x.person(a, b);
            case 18: return x.owner(a, b);
            case 19: return x.count(a);
            case 20: return x.overlap(a, b);
            case 21: return x.ifShare(a, b);
            case 22: return x.shareFor(a, b);
            case 23: return x.bestSalt(a, b);
            case 24: return x.nextEater(a);
            case 25: return Double.doubleToLongBits(x.part(a));
            default: return x.digest();
        }
    }

    private static long ofModel(Model m, int call, int a, int b, boolean c) {
        switch (call) {
            case 0: return m.open(a, b, c);
            case 1: return m.end(a);
            case 2: return m.share(a, b, true);
            case 3: return m.share(a, b, false);
            case 4: return m.resalt(a, b);
            case 5: return m.shake(a, b);
            case 6: return m.hold(a, b, c);
            case 7: return m.letGo(a, b);
            case 8: return m.pass(a);
            case 9: return m.append(a);
            case 10: return m.clearBuffer();
            case 11: return m.firstError();
            case 12: return m.run();
            case 13: return m.undo();
            case 14: return m.eats(a, b);
            case 15: return m.bucket(a, b);
            case 16: return m.bread(a, b);
            case 17: return m.person(a, b);
            case 18: return m.owner(a, b);
            case 19: return m.count(a);
            case 20: return m.overlap(a, b);
            case 21: return m.ifShare(a, b);
            case 22: return m.shareFor(a, b);
            case 23: return m.bestSalt(a, b);
            case 24: return m.nextEater(a);
            case 25: return Double.doubleToLongBits(m.part(a));
            default: return m.digest();
        }
    }

    private interface Answer {
        long get();
    }

    private static String told(Answer answer) {
        try {
            return String.valueOf(answer.get());
        } catch (RuntimeException e) {
            return "throws." + e.getClass().getSimpleName();
        }
    }

    /** A random run; how its calls are mixed differs from run to run. */
    private static final class Run {
        final int number;
        final Random random;
        final SaltShares x = new SaltShares();
        final Model m = new Model();
        final StringBuilder told = new StringBuilder();
        int calls = 0;

        Run(int number) {
            this.number = number;
            random = new Random(number * 7919L + 13);
        }

        int below(int bound) {
            return random.nextInt(bound);
        }

        boolean oneIn(int many) {
            return below(many) == 0;
        }

        /** Mostly within, now and then at or beyond the edges. */
        int from(int least, int most) {
            if (oneIn(40)) {
                int[] edges = {least - 1, most + 1, Integer.MIN_VALUE, Integer.MAX_VALUE, least, most};
                return edges[below(edges.length)];
            }
            return least + below(most - least + 1);
        }

        int aBread() {
            int many = m.now.breads.size();
            return many == 0 || oneIn(40) ? from(0, 8) : below(many);
        }

        int aShare() {
            int top = number % 3 == 0 ? 100 : 40;
            return oneIn(8) ? below(101) : from(0, top);
        }

        int aPerson() {
            return number % 2 == 0 ? from(0, 149) : oneIn(6) ? from(0, 149) : below(12);
        }

        boolean play() {
            boolean fine = true;
            while (fine && calls < CALLS - 1) {
                fine = oneIn(12) ? type(aText()) : step();
            }
            return fine && same(26, 0, 0, false);
        }

        boolean same(int call, int a, int b, boolean c) {
            if (calls >= CALLS) {
                return true;
            }
            calls++;
            String got = told(() -> ofClass(x, call, a, b, c));
            String due = told(() -> ofModel(m, call, a, b, c));
            told.append(NAMES[call]).append('(').append(a).append(", ").append(b).append(", ").append(c)
                    .append(") answers ").append(due).append('\n');
            if (got.equals(due)) {
                return true;
            }
            System.out.println("run " + number + ", the last call answered " + got + ":\n" + told);
            return false;
        }

        boolean type(String text) {
            boolean fine = true;
            for (int i = 0; i < text.length() && fine; i++) {
                fine = same(9, text.charAt(i), 0, false);
            }
            return fine && same(11, 0, 0, false) && same(oneIn(9) ? 10 : 12, 0, 0, false)
                    && (oneIn(3) || same(10, 0, 0, false));
        }

        String aText() {
            StringBuilder text = new StringBuilder(aCommand());
            for (int i = below(4); i > 0; i--) {
                text.append(';').append(aCommand());
            }
            for (int i = oneIn(3) ? 1 : 0; i > 0; i--) {
                int at = below(text.length());
                text.setCharAt(at, "0123456789+-=@;iodx~!8".charAt(below(22)));
            }
            return text.length() > 60 ? text.substring(0, 60) : text.toString();
        }

        String aCommand() {
            int bread = Math.floorMod(aBread(), 8);
            switch (below(6)) {
                case 0: return "d" + (1 + below(50));
                case 1: return oneIn(3) ? "x" + bread : "d1";
                case 2: return "i" + Math.floorMod(aPerson(), 150) + "@" + bread;
                case 3: return "o" + Math.floorMod(aPerson(), 150) + "@" + bread;
                case 4: return "-" + bread + "=" + below(101);
                default: return "+" + bread + "=" + below(101);
            }
        }

        boolean step() {
            switch (below(31)) {
                case 0: case 1: return same(0, from(-1, number % 4 == 0 ? 0 : 2), from(0, 9999), random.nextBoolean());
                case 2: return !oneIn(4) || same(1, aBread(), 0, false);
                case 3: case 4: case 5: return same(2, aBread(), aShare(), false);
                case 6: case 7: return same(3, aBread(), aShare(), false);
                case 8: return same(4, aBread(), from(0, 9999), false);
                case 9: return same(5, from(0, 2), from(0, 9999), false);
                case 10: case 11: return same(6, aPerson(), aBread(), random.nextBoolean());
                case 12: case 13: return same(7, aPerson(), aBread(), false);
                case 14: return same(8, from(1, 50), 0, false);
                case 15: return same(9, from(33, 126), 0, false) && same(10, 0, 0, false);
                case 16: return undoSome();
                case 17: return same(14, aPerson(), aBread(), false);
                case 18: return same(15, aPerson(), aBread(), false);
                case 19: return same(16, aBread(), from(0, 11), false);
                case 20: return same(17, aPerson(), from(0, 4), false);
                case 21: return same(18, from(0, 2), from(0, 99), false);
                case 22: case 23: return same(19, from(-1, 24), 0, false);
                case 24: return same(20, aBread(), aBread(), false);
                case 25: return same(21, aBread(), from(0, 100), false);
                case 26: return same(22, aBread(), from(0, 150), false);
                case 27: return same(23, aBread(), oneIn(3) ? from(9975, 9999) : from(0, 9999), false);
                case 28: return same(24, aBread(), 0, false);
                case 29: return same(25, aBread(), 0, false);
                default: return !oneIn(5) || same(26, 0, 0, false);
            }
        }

        boolean undoSome() {
            boolean fine = true;
            for (int i = oneIn(6) ? 7 : 1 + below(2); i > 0 && fine; i--) {
                fine = same(13, 0, 0, false);
            }
            return fine;
        }
    }

    public static void main(String[] args) {
        int wrong = 0;
        for (int number = 1; number <= RUNS && wrong < 3; number++) {
            wrong += new Run(number).play() ? 0 : 1;
        }
        System.out.println(wrong == 0 ? "all runs are as the model's" : wrong + " runs are not as the model's");
        if (wrong != 0) {
            System.exit(1);
        }
    }
}
