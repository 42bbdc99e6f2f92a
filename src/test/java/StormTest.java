import java.lang.reflect.InvocationTargetException;
import java.lang.reflect.Method;
import java.util.ArrayDeque;
import java.util.ArrayList;
import java.util.Arrays;
import java.util.Deque;
import java.util.List;
import java.util.NoSuchElementException;
import java.util.Random;
import java.util.TreeSet;

/**
 * Runs of as many calls as the document promises for an object, each answer compared with the answer of a plain
 * model that copies whole boxes.
 */
public final class StormTest {
    private static final int RUNS = 1500;
    private static final int CALLS = 512;
    private static final int NONE = -1;

    public static void main(String[] args) throws Exception {
        List<Method> face = new ArrayList<>();
        for (String name : new TreeSet<>(names())) {
            for (Method m : ClawBoxes.class.getDeclaredMethods()) {
                if (m.getName().equals(name) && java.lang.reflect.Modifier.isPublic(m.getModifiers())) {
                    face.add(m);
                }
            }
        }
        if (face.size() != 37 - 1) {
            System.out.println("the face has " + face.size() + " methods, 36 are due");
            System.exit(1);
        }
        for (int run = 0; run < RUNS; run++) {
            if (!new Storm(run, face).blows()) {
                System.exit(1);
            }
        }
        System.out.println("all answers are those of the model");
    }

    private static List<String> names() {
        List<String> all = new ArrayList<>();
        for (Method m : Model.class.getDeclaredMethods()) {
            if (java.lang.reflect.Modifier.isPublic(m.getModifiers())) {
                all.add(m.getName());
            }
        }
        return all;
    }

    private static final class Storm {
        final int run;
        final List<Method> face;
        final Random random;
        final ClawBoxes made = new ClawBoxes();
        final Model model = new Model();
        final StringBuilder log = new StringBuilder();
        final boolean tame;
        final boolean few;
        final int tries;
        final int looks;
        int calls = 0;
        boolean good = true;

        Storm(int run, List<Method> face) {
            this.run = run;
            this.face = face;
            this.random = new Random(run);
            this.tame = run % 3 != 0;
            this.few = run % 2 == 0;
            boolean fills = run % 5 == 0;
            this.tries = fills ? 80 : 24;
            this.looks = fills ? 60 : 6;
        }

        boolean blows() throws Exception {
            for (int i = 0; good && i < 8; i++) {
                both("lay", arguments("lay"));
                tellText();
            }
            both("hand", arguments("hand"));
            both("force", arguments("force"));
            while (good && calls < CALLS) {
                int dice = random.nextInt(100);
                if (dice < 6) {
                    tellText();
                } else if (dice < 6 + tries) {
                    String name = random.nextInt(3) == 0 ? "play" : "attempt";
                    both(name, arguments(name));
                    if (random.nextInt(looks) == 0) {
                        lookAtAll();
                        both("force", arguments("force"));
                    }
                } else {
                    String name = face.get(random.nextInt(face.size())).getName();
                    if (rare(name) && random.nextInt(4) != 0) {
                        name = "lay";
                    }
                    both(name, arguments(name));
                }
            }
            return good;
        }

        boolean rare(String name) {
            return name.equals("refill") || name.equals("restore") || name.equals("hole") || name.equals("key")
                    || name.equals("set") && random.nextInt(2) == 0;
        }

        void lookAtAll() throws Exception {
            for (int what = 0; what <= 14; what++) {
                both("count", new Object[] {what});
            }
            for (int t = 0; t < model.now.things.size(); t++) {
                both("thing", new Object[] {t, 0});
                both("thing", new Object[] {t, 1});
            }
            int last = model.now.record.size() - 1;
            for (int what = 0; last >= 0 && what < 10; what++) {
                both("record", new Object[] {last, what});
            }
        }

        void tellText() throws Exception {
            boolean law = random.nextInt(4) == 0;
            String text = new Texts(random, law).text();
            for (int i = 0; i < text.length(); i += 20) {
                Object[] five = new Object[5];
                for (int w = 0; w < 5; w++) {
                    int v = 0;
                    for (int b = 0; b < 4; b++) {
                        int at = i + 4 * w + b;
                        v = v << 8 | (at < text.length() ? text.charAt(at) : random.nextInt(256));
                    }
                    five[w] = v;
                }
                both("feed", five);
            }
            int n = random.nextInt(20) == 0 ? random.nextInt(text.length() + 2) : text.length();
            both("program", new Object[] {n, law});
            both("fault", new Object[0]);
        }

        int between(int least, int most) {
            int dice = tame ? 20 : random.nextInt(40);
            if (dice == 0) {
                return least - 1;
            }
            if (dice == 1) {
                return most + 1;
            }
            if (dice == 2) {
                return random.nextInt();
            }
            return least + random.nextInt(most - least + 1);
        }

        /** Mostly a cell where something lies: elsewhere each try is missed. */
        int cell() {
            int things = model.now.things.size();
            int place = things == 0 ? NONE : model.now.things.get(random.nextInt(things)).place;
            if (place >= 0 && random.nextInt(4) != 0) {
                return place;
            }
            int near = between(0, 63);
            return few && near >= 0 && near < 64 ? 8 * (near / 8 % 3) + near % 3 : near;
        }

        int element(int size) {
            return between(0, Math.max(0, size - 1));
        }

        Object[] arguments(String name) {
            Model m = model;
            switch (name) {
                case "lay":
                    return new Object[] {cell(), random.nextInt(3) == 0 ? between(1, 99) : between(1, 20), between(0, 7) % 4,
                        between(0, 999)};
                case "wire":
                    return new Object[] {element(m.now.things.size()), random.nextInt(4) == 0};
                case "key":
                    return new Object[] {element(m.now.things.size())};
                case "thing":
                    return new Object[] {element(m.now.things.size()), between(0, 5)};
                case "top":
                    return new Object[] {cell(), random.nextBoolean()};
                case "hole":
                    return new Object[] {between(0, 63)};
                case "set":
                    int what = between(0, 2);
                    return new Object[] {what, between(0, what == 0 ? 14 : what == 1 ? 99 : 23)};
                case "seed":
                    return new Object[] {random.nextInt()};
                case "feed":
                    return new Object[] {random.nextInt(), random.nextInt(), 0x67726970, 0x20393b20, random.nextInt()};
                case "program":
                    return new Object[] {between(0, m.tape.length()), random.nextBoolean()};
                case "force":
                    return new Object[] {random.nextInt(9) == 0 ? NONE : element(m.programs.size())};
                case "tells":
                    return new Object[] {between(0, 2), between(0, 35)};
                case "attempt":
                case "guess":
                    return new Object[] {cell()};
                case "record":
                    return new Object[] {element(m.now.record.size()), between(0, 9)};
                case "hand":
                    return new Object[] {random.nextBoolean() ? between(1, 134217727) : between(1, 134217727) & 0777000777};
                case "play":
                case "back":
                    return new Object[] {element(m.hands.size()), cell()};
                case "can":
                    return new Object[] {random.nextBoolean()};
                case "odds":
                    return new Object[] {element(m.hands.size()), cell(), between(0, 35)};
                case "weights":
                    return new Object[] {element(m.hands.size())};
                case "when":
                    return new Object[] {cell(), element(m.programs.size())};
                case "strange":
                    return new Object[] {element(m.programs.size())};
                case "worth":
                    return new Object[] {cell(), cell(), between(1, 20)};
                case "bide":
                    return new Object[] {cell(), cell()};
                case "settle":
                    return new Object[] {element(m.hands.size()), cell(), between(0, 9999) % (few ? 300 : 10001)};
                case "broken":
                    return new Object[] {element(m.laws.size())};
                case "cut":
                    int aim = between(0, 99);
                    int string = random.nextInt(4) == 0 ? between(0, 99) : Math.floorMod(aim + random.nextInt(14) - 2, 100);
                    return new Object[] {element(m.hands.size()), aim, string, between(0, 9), between(0, 999) % 20};
                case "player":
                    return new Object[] {cell(), between(1, 99), between(0, 99), between(0, 3)};
                case "fair":
                    return new Object[] {random.nextInt(5) == 0 ? between(0, 64) : between(0, 12)};
                case "count":
                    return new Object[] {random.nextInt(20) - 3};
                default:
                    return new Object[0];
            }
        }

        /** Makes the call on both, as long as the object may be called and no answer was wrong. */
        void both(String name, Object[] arguments) throws Exception {
            if (!good || calls >= CALLS) {
                return;
            }
            calls++;
            Object got = answer(made, name, arguments);
            Object want = answer(model, name, arguments);
            log.append(name).append(Arrays.toString(arguments)).append(" -> ").append(got).append('\n');
            if (!got.equals(want)) {
                System.out.println("run " + run + ", a new object:\n" + log + "due is " + want);
                good = false;
            }
        }

        Object answer(Object on, String name, Object[] arguments) throws Exception {
            for (Method m : on.getClass().getDeclaredMethods()) {
                if (m.getName().equals(name) && java.lang.reflect.Modifier.isPublic(m.getModifiers())) {
                    try {
                        return m.invoke(on, arguments);
                    } catch (InvocationTargetException e) {
                        return e.getCause().getClass().getName();
                    }
                }
            }
            throw new IllegalStateException(name);
        }
    }

    /** Texts of programs and laws, some of them spoilt. */
    private static final class Texts {
        final Random random;
        final boolean law;
        final List<String> words = new ArrayList<>();

        Texts(Random random, boolean law) {
            this.random = random;
            this.law = law;
        }

        String text() {
            if (law) {
                condition(random.nextInt(5));
                words.add(";");
            } else {
                int clauses = random.nextInt(12) == 0 ? 11 + random.nextInt(4) : random.nextInt(6);
                if (clauses < 5 && random.nextInt(3) != 0) {
                    words.addAll(List.of("grip", String.valueOf(15 + random.nextInt(80)), ";"));
                    words.addAll(List.of("slip", String.valueOf(random.nextInt(40)), ";"));
                }
                for (int i = 0; i < clauses; i++) {
                    clause(clauses > 6 ? 0 : random.nextInt(4));
                }
            }
            if (random.nextInt(4) == 0) {
                spoil();
            }
            StringBuilder all = new StringBuilder();
            for (String word : words) {
                boolean needs = all.length() > 0 && Character.isLetterOrDigit(all.charAt(all.length() - 1))
                        && Character.isLetterOrDigit(word.charAt(0)) && random.nextInt(60) != 0;
                all.append(" ".repeat(needs ? 1 : random.nextInt(20) / 18)).append(word);
            }
            all.append(" ".repeat(random.nextInt(10) / 8));
            return all.length() > 300 ? all.substring(0, 300) : all.toString();
        }

        void spoil() {
            String[] odd = {"grip", "slip", "lots", "if", "or", "and", "not", "least", "most", "tries", "can", "x", "1000",
                "0999", "(", ")", "[", "]", ",", ";", "<", "=", "+", "*", "!", "\u0001", "\u00e9", "G"};
            int at = words.isEmpty() ? 0 : random.nextInt(words.size());
            String word = odd[random.nextInt(odd.length)];
            int dice = words.isEmpty() ? 0 : random.nextInt(4);
            if (dice == 0) {
                words.add(at, word);
            } else if (dice == 1) {
                words.set(at, word);
            } else if (dice == 2) {
                words.remove(at);
            } else {
                words.subList(at, words.size()).clear();
            }
        }

        void clause(int depth) {
            int dice = random.nextInt(5);
            words.add(dice < 3 ? "grip" : dice < 4 ? "slip" : "lots");
            if (random.nextInt(2) == 0) {
                words.add(String.valueOf(dice == 3 ? random.nextInt(16) : random.nextInt(60)));
                if (random.nextInt(3) == 0) {
                    words.add("+");
                    sum(0);
                }
            } else {
                sum(depth);
            }
            if (random.nextInt(2) == 0) {
                words.add("if");
                condition(depth);
            }
            words.add(";");
        }

        void condition(int depth) {
            int parts = 1 + random.nextInt(5) / 3;
            for (int i = 0; i < parts; i++) {
                if (i > 0) {
                    words.add(random.nextBoolean() ? "and" : "or");
                }
                claim(depth);
            }
        }

        void claim(int depth) {
            int dice = depth > 0 ? random.nextInt(5) : 4;
            if (dice == 0) {
                words.add("not");
                claim(depth - 1);
            } else if (dice == 1) {
                words.add("[");
                condition(depth - 1);
                words.add("]");
            } else {
                sum(depth - 1);
                words.add(new String[] {"<", ">", "="}[random.nextInt(3)]);
                sum(depth - 1);
            }
        }

        void sum(int depth) {
            int parts = 1 + random.nextInt(5) / 3;
            for (int i = 0; i < parts; i++) {
                if (i > 0) {
                    words.add(new String[] {"+", "-", "*", "/"}[random.nextInt(4)]);
                }
                unit(depth);
            }
        }

        void unit(int depth) {
            int dice = depth > 0 ? random.nextInt(6) : 3 + random.nextInt(3);
            if (dice == 0) {
                words.add("(");
                sum(random.nextInt(3) == 0 ? depth + 2 : depth - 1);
                words.add(")");
            } else if (dice == 1) {
                words.add(random.nextBoolean() ? "least" : "most");
                words.add("(");
                sum(depth - 1);
                words.add(",");
                sum(depth - 1);
                words.add(")");
            } else if (dice < 5) {
                String[] all = {"tries", "since", "coins", "paid", "hour", "lot", "can"};
                words.add(all[random.nextInt(law ? 7 : 6)]);
            } else {
                words.add(String.valueOf(random.nextInt(random.nextInt(5) == 0 ? 1003 : 12)));
            }
        }
    }

    /** Finds faults by a machine of states, and works texts without faults by recursion. */
    private static final class Text {
        final String text;
        final boolean law;
        final List<String> words = new ArrayList<>();
        final List<Integer> places = new ArrayList<>();
        int fault = 0;
        int place = NONE;
        int at;
        int[] names;

        Text(String text, boolean law) {
            this.text = text;
            this.law = law;
            split();
            check();
        }

        void split() {
            for (int i = 0; i < text.length();) {
                int j = i + 1;
                String set = Character.toString(text.charAt(i));
                if (text.charAt(i) >= '0' && text.charAt(i) <= '9') {
                    set = "0123456789";
                } else if (text.charAt(i) >= 'a' && text.charAt(i) <= 'z') {
                    set = "abcdefghijklmnopqrstuvwxyz";
                }
                while (set.length() > 1 && j < text.length() && set.indexOf(text.charAt(j)) >= 0) {
                    j++;
                }
                if (text.charAt(i) != ' ') {
                    words.add(text.substring(i, j));
                    places.add(i);
                }
                i = j;
            }
            words.add("");
            places.add(text.length());
        }

        void check() {
            Deque<String> open = new ArrayDeque<>();
            String state = law ? "claim" : "clause";
            if (law) {
                open.push("law");
            }
            int clauses = 0;
            for (int i = 0; i < words.size(); i++) {
                String w = words.get(i);
                String next = null;
                int kind = 1;
                if (state.equals("claim") && !w.equals("not") && !w.equals("[")) {
                    open.push("left");
                    state = "unit";
                }
                boolean opens = false;
                if (state.equals("end")) {
                    next = w.isEmpty() ? "over" : null;
                } else if (state.equals("clause")) {
                    if (w.isEmpty()) {
                        next = "over";
                    } else if (List.of("grip", "slip", "lots").contains(w)) {
                        clauses++;
                        open.push("told");
                        next = clauses > 12 ? null : "unit";
                        kind = 3;
                    }
                } else if (state.equals("claim")) {
                    open.push(w);
                    opens = true;
                    next = "claim";
                } else if (state.equals("unit")) {
                    if (!w.isEmpty() && Character.isDigit(w.charAt(0)) && w.charAt(0) < 128) {
                        next = new java.math.BigInteger(w).intValue() > 999 || w.replaceFirst("^0+", "").length() > 3 ? null : "done";
                        kind = 2;
                    } else if (List.of("tries", "since", "coins", "paid", "hour", "lot").contains(w) || law && w.equals("can")) {
                        next = "done";
                    } else if (w.equals("(")) {
                        open.push("(");
                        opens = true;
                        next = "unit";
                    } else if (w.equals("least") || w.equals("most")) {
                        next = "choice";
                    }
                } else if (state.equals("choice")) {
                    if (w.equals("(")) {
                        open.push("choice,");
                        opens = true;
                        next = "unit";
                    }
                } else if (state.equals("done")) {
                    if (w.length() == 1 && "+-*/".contains(w)) {
                        next = "unit";
                    } else {
                        if (open.peek().equals("right")) {
                            open.pop();
                            dropNots(open);
                            state = "held";
                            i--;
                            continue;
                        }
                        next = closing(open, w);
                    }
                } else if (state.equals("held")) {
                    if (w.equals("and") || w.equals("or")) {
                        next = "claim";
                    } else if (w.equals("]") && open.peek().equals("[")) {
                        open.pop();
                        dropNots(open);
                        next = "held";
                    } else if (w.equals(";") && open.peek().equals("if")) {
                        open.pop();
                        next = "clause";
                    } else if (w.equals(";") && open.peek().equals("law")) {
                        next = "end";
                    }
                }
                if (opens && open.stream().filter(o -> List.of("(", "[", "not", "choice,", "choice").contains(o)).count() > 6) {
                    next = null;
                    kind = 3;
                }
                if (next == null) {
                    fault = kind;
                    place = places.get(i);
                    return;
                }
                state = next;
            }
        }

        static String closing(Deque<String> open, String w) {
            String top = open.peek();
            if (top.equals("(") && w.equals(")") || top.equals("choice") && w.equals(")")) {
                open.pop();
                return "done";
            }
            if (top.equals("choice,") && w.equals(",")) {
                open.pop();
                open.push("choice");
                return "unit";
            }
            if (top.equals("told") && w.equals(";")) {
                open.pop();
                return "clause";
            }
            if (top.equals("told") && w.equals("if")) {
                open.pop();
                open.push("if");
                return "claim";
            }
            if (top.equals("left") && w.length() == 1 && "<>=".contains(w)) {
                open.pop();
                open.push("right");
                return "unit";
            }
            return null;
        }

        static void dropNots(Deque<String> open) {
            while (open.peek().equals("not")) {
                open.pop();
            }
        }

        boolean next(String w) {
            if (words.get(at).equals(w)) {
                at++;
                return true;
            }
            return false;
        }

        /** grip, slip, lots, before they are held within their bounds. */
        int[] tells(int[] names) {
            this.names = names;
            at = 0;
            int[] told = new int[3];
            while (!words.get(at).isEmpty()) {
                int which = List.of("grip", "slip", "lots").indexOf(words.get(at++));
                int v = e();
                boolean c = !next("if") || c();
                at++;
                told[which] = c ? v : told[which];
            }
            return told;
        }

        boolean holds(int[] names) {
            this.names = names;
            at = 0;
            return c();
        }

        boolean c() {
            boolean v = a();
            while (next("or")) {
                v = a() | v;
            }
            return v;
        }

        boolean a() {
            boolean v = b();
            while (next("and")) {
                v = b() & v;
            }
            return v;
        }

        boolean b() {
            if (next("not")) {
                return !b();
            }
            if (next("[")) {
                boolean v = c();
                at++;
                return v;
            }
            int left = e();
            String r = words.get(at++);
            int right = e();
            return r.equals("<") ? left < right : r.equals(">") ? left > right : left == right;
        }

        int e() {
            int v = t();
            while (true) {
                if (next("+")) {
                    v += t();
                } else if (next("-")) {
                    v -= t();
                } else {
                    return v;
                }
            }
        }

        int t() {
            int v = u();
            while (true) {
                if (next("*")) {
                    v *= u();
                } else if (next("/")) {
                    int d = u();
                    v = d == 0 ? 0 : v / d;
                } else {
                    return v;
                }
            }
        }

        int u() {
            String w = words.get(at++);
            if (w.equals("(")) {
                int v = e();
                at++;
                return v;
            }
            if (w.equals("least") || w.equals("most")) {
                at++;
                int p = e();
                at++;
                int q = e();
                at++;
                return w.equals("least") == p < q ? p : q;
            }
            int name = List.of("tries", "since", "coins", "paid", "hour", "lot", "can").indexOf(w);
            return name >= 0 ? names[name] : Integer.parseInt(w);
        }
    }

    private static final class Thing {
        int weight;
        int lock;
        int value;
        boolean wired;
        int first;
        int place;

        Thing copy() {
            Thing t = new Thing();
            t.weight = weight;
            t.lock = lock;
            t.value = value;
            t.wired = wired;
            t.first = first;
            t.place = place;
            return t;
        }
    }

    private static final class Made {
        State before;
        int cell;
        int outcome;
        int letGo;
        int lot;
        int[] names;
    }

    private static final class State {
        List<Thing> things = new ArrayList<>();
        List<List<Integer>> heaps = new ArrayList<>();
        int hole = 63;
        int time = 14;
        int price = 1;
        int hour = 0;
        int seed = 1;
        int tries = 0;
        int since = 0;
        int coins = 0;
        int paid = 0;
        Text force = null;
        int forceNumber = NONE;
        List<Made> record = new ArrayList<>();

        State() {
            for (int i = 0; i < 64; i++) {
                heaps.add(new ArrayList<>());
            }
        }

        State copy() {
            State s = new State();
            things.forEach(t -> s.things.add(t.copy()));
            for (int i = 0; i < 64; i++) {
                s.heaps.get(i).addAll(heaps.get(i));
            }
            s.hole = hole;
            s.time = time;
            s.price = price;
            s.hour = hour;
            s.seed = seed;
            s.tries = tries;
            s.since = since;
            s.coins = coins;
            s.paid = paid;
            s.force = force;
            s.forceNumber = forceNumber;
            s.record = new ArrayList<>(record);
            return s;
        }

        int[] names(int lot) {
            return new int[] {tries + 1, since + 1, coins + price, paid, hour, lot, 0};
        }

        int tells(int what, int lot) {
            int v = force == null ? 0 : force.tells(names(what == 2 ? 0 : lot))[what];
            return what == 2 ? Math.max(1, Math.min(36, v)) : Math.max(0, Math.min(999, v));
        }

        int draw(int n) {
            seed = seed * 1103515245 + 12345;
            return (int) ((seed & 0x7fff0000L) / 65536 % n);
        }

        int top(int cell) {
            List<Integer> heap = heaps.get(cell);
            return heap.isEmpty() ? NONE : heap.get(heap.size() - 1);
        }

        List<Integer> gripped(int cell) {
            List<Integer> all = new ArrayList<>(List.of(top(cell)));
            int lock = things.get(top(cell)).lock;
            int[][] sides = {{1, 0}, {0, 1}, {-1, 0}, {0, -1}};
            for (int[] side : sides) {
                int x = cell % 8 + side[0];
                int y = cell / 8 + side[1];
                if (lock != 0 && x >= 0 && x < 8 && y >= 0 && y < 8 && top(8 * y + x) != NONE
                        && things.get(top(8 * y + x)).lock == lock) {
                    all.add(top(8 * y + x));
                }
            }
            return all;
        }

        /** The outcome and where it was let go; told grip and slip. */
        int[] tryWith(int cell, int grip, int slip) {
            tries++;
            since++;
            coins += price;
            if (cell == hole || cell % 8 + cell / 8 > time || top(cell) == NONE) {
                return new int[] {0, NONE};
            }
            List<Integer> all = gripped(cell);
            int weight = 0;
            for (int t : all) {
                if (things.get(t).wired) {
                    return new int[] {4, NONE};
                }
                weight += things.get(t).weight;
            }
            if (grip < weight) {
                return new int[] {1, NONE};
            }
            int k = 0;
            for (int level = heaps.get(cell).size(); level <= 9; level++) {
                k++;
                if (grip - slip * k / 10 < weight) {
                    return new int[] {2, NONE};
                }
            }
            int x = cell % 8;
            int y = cell / 8;
            while (true) {
                k++;
                if (x != hole % 8) {
                    x += x < hole % 8 ? 1 : -1;
                } else {
                    y += y < hole / 8 ? 1 : -1;
                }
                boolean in = 8 * y + x == hole;
                if (in || grip - slip * k / 10 < weight) {
                    for (int t : all) {
                        heaps.get(things.get(t).place).remove((Integer) t);
                    }
                    for (int t : all) {
                        things.get(t).place = in ? NONE : 8 * y + x;
                        if (in) {
                            paid += things.get(t).value;
                            since = 0;
                        } else {
                            heaps.get(8 * y + x).add(t);
                        }
                    }
                    return new int[] {in ? 5 : 3, in ? NONE : 8 * y + x};
                }
            }
        }

        int[] tryByLot(int cell, int lot) {
            return tryWith(cell, tells(0, lot), tells(1, lot));
        }

        boolean pays(int cell, int lot) {
            return quiet(cell) == 0 && copy().tryByLot(cell, lot)[0] == 5;
        }

        /** 1 for a cell where no program can help: it saves copying the whole box. */
        int quiet(int cell) {
            return top(cell) == NONE ? 1 : 0;
        }

        int can(boolean all) {
            int lots = tells(2, 0);
            for (int cell = 0; cell < 64; cell++) {
                int paying = 0;
                for (int lot = 0; lot < lots && quiet(cell) == 0 && (all ? paying == lot : paying == 0); lot++) {
                    paying += pays(cell, lot) ? 1 : 0;
                }
                if (all ? paying == lots : paying > 0) {
                    return cell;
                }
            }
            return NONE;
        }
    }

    /** The document once more, in the plainest way. */
    public static final class Model {
        private State now = new State();
        private final List<State> images = new ArrayList<>();
        private final List<Text> programs = new ArrayList<>();
        private final List<Text> laws = new ArrayList<>();
        private final List<int[]> hands = new ArrayList<>();
        private String tape = "";
        private int fault = NONE;

        private static void cells(int... all) {
            for (int cell : all) {
                if (cell < 0 || cell > 63) {
                    throw new IndexOutOfBoundsException();
                }
            }
        }

        private static void range(int v, int least, int most) {
            if (v < least || v > most) {
                throw new IllegalArgumentException();
            }
        }

        private static void exists(int v, List<?> all) {
            if (v < 0 || v >= all.size()) {
                throw new NoSuchElementException();
            }
        }

        public int lay(int cell, int weight, int lock, int value) {
            cells(cell);
            range(cell == now.hole ? 1 : 0, 0, 0);
            range(weight, 1, 99);
            range(lock, 0, 7);
            range(value, 0, 999);
            if (now.things.size() == 24) {
                return -1;
            }
            Thing t = new Thing();
            t.weight = weight;
            t.lock = lock;
            t.value = value;
            t.first = cell;
            t.place = cell;
            now.heaps.get(cell).add(now.things.size());
            now.things.add(t);
            return now.things.size() - 1;
        }

        public boolean wire(int thing, boolean is) {
            exists(thing, now.things);
            boolean was = now.things.get(thing).wired;
            now.things.get(thing).wired = is;
            return was;
        }

        public int key(int thing) {
            exists(thing, now.things);
            Thing t = now.things.get(thing);
            if (t.place < 0) {
                return 0;
            }
            now.heaps.get(t.place).remove((Integer) thing);
            t.place = -2;
            return 1;
        }

        public int thing(int thing, int what) {
            exists(thing, now.things);
            range(what, 0, 5);
            Thing t = now.things.get(thing);
            int level = t.place < 0 ? NONE : now.heaps.get(t.place).indexOf(thing);
            return new int[] {t.place, level, t.weight, t.lock, t.value, t.wired ? 1 : 0}[what];
        }

        public int top(int cell, boolean height) {
            cells(cell);
            return height ? now.heaps.get(cell).size() : now.top(cell);
        }

        public int hole(int cell) {
            cells(cell);
            range(now.heaps.get(cell).size(), 0, 0);
            int was = now.hole;
            now.hole = cell;
            return was;
        }

        public int set(int what, int v) {
            range(what, 0, 2);
            range(v, 0, new int[] {14, 99, 23}[what]);
            int was = new int[] {now.time, now.price, now.hour}[what];
            now.time = what == 0 ? v : now.time;
            now.price = what == 1 ? v : now.price;
            now.hour = what == 2 ? v : now.hour;
            return was;
        }

        public int seed(int v) {
            int was = now.seed;
            now.seed = v;
            return was;
        }

        public int feed(int a, int b, int c, int d, int e) {
            if (tape.length() > 280) {
                return NONE;
            }
            StringBuilder more = new StringBuilder(tape);
            for (int v : new int[] {a, b, c, d, e}) {
                more.append((char) (v >>> 24)).append((char) (v >> 16 & 255)).append((char) (v >> 8 & 255)).append((char) (v & 255));
            }
            tape = more.toString();
            return tape.length();
        }

        public int program(int n, boolean law) {
            range(n, 0, tape.length());
            Text text = new Text(tape.substring(0, n), law);
            tape = "";
            fault = text.place;
            if (text.fault != 0) {
                return text.fault - 10;
            }
            List<Text> all = law ? laws : programs;
            if (all.size() == (law ? 3 : 6)) {
                return -1;
            }
            all.add(text);
            return all.size() - 1;
        }

        public int fault() {
            return fault;
        }

        public int force(int program) {
            range(program, NONE, programs.size() - 1);
            int was = now.forceNumber;
            now.forceNumber = program;
            now.force = program == NONE ? null : programs.get(program);
            return was;
        }

        public int tells(int what, int lot) {
            range(what, 0, 2);
            range(lot, 0, 35);
            return now.tells(what, lot);
        }

        public int attempt(int cell) {
            cells(cell);
            if (now.record.size() == 200) {
                return -1;
            }
            Made made = new Made();
            made.before = now.copy();
            made.before.record.clear();
            made.names = now.names(0);
            made.names[6] = now.can(false) == NONE ? 0 : 1;
            int lots = now.tells(2, 0);
            made.lot = lots == 1 ? 0 : now.draw(lots);
            int[] came = now.tryByLot(cell, made.lot);
            made.cell = cell;
            made.outcome = came[0];
            made.letGo = came[1];
            now.record.add(made);
            return made.outcome;
        }

        public int record(int k, int what) {
            exists(k, now.record);
            range(what, 0, 9);
            Made m = now.record.get(k);
            int[] n = m.names;
            return new int[] {m.cell, m.outcome, m.letGo, m.lot, n[0], n[1], n[2], n[3], n[4], n[6]}[what];
        }

        public int hand(int digits) {
            range(digits, 1, 134217727);
            if (hands.size() == 6) {
                return -1;
            }
            int[] nine = new int[9];
            int left = digits;
            for (int i = 8; i >= 0; i--) {
                nine[i] = left % 8;
                left /= 8;
            }
            hands.add(nine);
            return hands.size() - 1;
        }

        private static int comes(int aim, int i) {
            int x = Math.min(7, Math.max(0, aim % 8 - 1 + i % 3));
            int y = Math.min(7, Math.max(0, aim / 8 - 1 + i / 3));
            return 8 * y + x;
        }

        public int play(int hand, int aim) {
            exists(hand, hands);
            cells(aim);
            if (now.record.size() == 200) {
                return -1;
            }
            List<Integer> urn = new ArrayList<>();
            for (int i = 0; i < 9; i++) {
                for (int w = 0; w < hands.get(hand)[i]; w++) {
                    urn.add(comes(aim, i));
                }
            }
            return attempt(urn.get(now.draw(urn.size())));
        }

        public int can(boolean all) {
            return now.can(all);
        }

        public int odds(int hand, int aim, int lot) {
            exists(hand, hands);
            cells(aim);
            range(lot, 0, 35);
            int sum = 0;
            for (int i = 0; i < 9; i++) {
                sum += now.pays(comes(aim, i), lot) ? hands.get(hand)[i] : 0;
            }
            return sum;
        }

        public int weights(int hand) {
            exists(hand, hands);
            return Arrays.stream(hands.get(hand)).sum();
        }

        public int when(int cell, int program) {
            cells(cell);
            range(program, 0, programs.size() - 1);
            State s = now.copy();
            s.force = programs.get(program);
            for (int n = 1; n <= 60; n++) {
                if (s.pays(cell, 0)) {
                    return n;
                }
                s.tryByLot(s.hole, 0);
            }
            return NONE;
        }

        public int fitting() {
            int bits = 0;
            for (int p = 0; p < programs.size(); p++) {
                bits += strange(p) == NONE ? 1 << p : 0;
            }
            return bits;
        }

        public int strange(int program) {
            range(program, 0, programs.size() - 1);
            for (int k = 0; k < now.record.size(); k++) {
                Made m = now.record.get(k);
                State then = m.before.copy();
                then.force = programs.get(program);
                boolean fits = m.outcome == 0 || m.outcome == 4;
                int lots = then.tells(2, 0);
                for (int lot = 0; lot < lots && !fits; lot++) {
                    fits = Arrays.equals(then.copy().tryByLot(m.cell, lot), new int[] {m.outcome, m.letGo});
                }
                if (!fits) {
                    return k;
                }
            }
            return NONE;
        }

        public int guess(int cell) {
            cells(cell);
            int sum = 0;
            for (int p = 0; p < programs.size(); p++) {
                State s = now.copy();
                s.force = programs.get(p);
                sum += strange(p) == NONE && s.pays(cell, 0) ? 1 : 0;
            }
            return sum;
        }

        public int refill() {
            int changed = 0;
            now.heaps.forEach(List::clear);
            for (int t = 0; t < now.things.size(); t++) {
                Thing thing = now.things.get(t);
                int place = thing.first == now.hole ? NONE : thing.first;
                changed += place == thing.place ? 0 : 1;
                thing.place = place;
                if (place >= 0) {
                    now.heaps.get(place).add(t);
                }
            }
            now.tries = 0;
            now.since = 0;
            now.coins = 0;
            now.paid = 0;
            now.record.clear();
            return changed;
        }

        public int worth(int others, int yours, int k) {
            cells(others, yours);
            range(k, 1, 20);
            State s = now.copy();
            for (int i = 1; i < k; i++) {
                s.tryByLot(others, 0);
            }
            int before = s.paid;
            s.tryByLot(yours, 0);
            return s.paid - before - s.price;
        }

        public int bide(int others, int yours) {
            cells(others, yours);
            int best = 20;
            for (int k = 19; k >= 1; k--) {
                best = worth(others, yours, k) >= worth(others, yours, best) ? k : best;
            }
            return best;
        }

        private int hits(int hand, int cell) {
            int w = 0;
            for (int i = 0; i < 9; i++) {
                w += comes(cell, i) == cell ? hands.get(hand)[i] : 0;
            }
            return w;
        }

        public int settle(int hand, int cell, int leave) {
            exists(hand, hands);
            cells(cell);
            range(leave, 0, 9999);
            int w = hits(hand, cell);
            if (w == 0 || now.top(cell) == NONE) {
                return NONE;
            }
            int n = 1;
            while (n <= 200 && (long) now.price * ((n - 1) * w + weights(hand)) < (now.things.get(now.top(cell)).value + leave) * (long) w) {
                n++;
            }
            return n > 200 ? NONE : n;
        }

        public int back(int hand, int cell) {
            exists(hand, hands);
            cells(cell);
            int w = hits(hand, cell);
            if (w == 0 || now.top(cell) == NONE) {
                return Integer.MIN_VALUE;
            }
            int value = now.things.get(now.top(cell)).value;
            return (int) Math.floor((double) (now.price * weights(hand) - value * w) / w + 1e-9);
        }

        public int broken(int law) {
            exists(law, laws);
            for (int k = 0; k <= now.record.size(); k++) {
                int[] names = k < now.record.size() ? now.record.get(k).names.clone() : now.names(0);
                if (k == now.record.size()) {
                    names[6] = now.can(false) == NONE ? 0 : 1;
                }
                if (!laws.get(law).holds(names)) {
                    return k;
                }
            }
            return NONE;
        }

        public int cut(int hand, int aim, int string, int ruse, int owed) {
            exists(hand, hands);
            range(aim, 0, 99);
            range(string, 0, 99);
            range(ruse, 0, 9);
            range(owed, 0, 999);
            int sum = 0;
            for (int column = 0; column < 3; column++) {
                int tick = aim - 1 + column + (now.since + 1 < owed ? ruse : 0);
                if ((tick + 100) % 100 == string) {
                    sum += hands.get(hand)[column] + hands.get(hand)[column + 3] + hands.get(hand)[column + 6];
                }
            }
            return sum;
        }

        public int player(int cell, int belief, int coins, int what) {
            cells(cell);
            range(belief, 1, 99);
            range(coins, 0, 99);
            range(what, 0, 3);
            State s = now.copy();
            int[] all = {0, 0, belief, 0};
            for (int purse = coins; purse > 0 && all[2] > 0; purse--) {
                int outcome = s.tryByLot(cell, 0)[0];
                all[0]++;
                all[1] += outcome == 2 || outcome == 3 ? 1 : 0;
                all[2] += new int[] {-2, -2, 1, 1, -2, 5}[outcome];
                all[2] = Math.min(99, Math.max(0, all[2]));
                all[3] += outcome == 5 ? 1 : 0;
            }
            return all[what];
        }

        public int fair(int many) {
            range(many, 0, 64);
            for (int slip = 8; slip >= 0; slip -= 2) {
                for (int grip = 10; grip < 100; grip += 10) {
                    int paying = 0;
                    for (int cell = 0; cell < 64; cell++) {
                        paying += now.top(cell) != NONE && now.copy().tryWith(cell, grip, slip)[0] == 5 ? 1 : 0;
                    }
                    if (paying >= many) {
                        return 100 * grip + slip;
                    }
                }
            }
            return NONE;
        }

        public int image() {
            if (images.size() == 3) {
                return -1;
            }
            images.add(now.copy());
            return images.size();
        }

        public int restore() {
            if (images.isEmpty()) {
                return -1;
            }
            now = images.remove(images.size() - 1);
            return images.size();
        }

        public int count(int what) {
            int in = (int) now.things.stream().filter(t -> t.place == NONE).count();
            int taken = (int) now.things.stream().filter(t -> t.place == -2).count();
            int[] all = {now.things.size(), now.things.size() - in - taken, in, taken, now.tries, now.since + 1, now.coins, now.paid,
                programs.size(), laws.size(), hands.size(), images.size(), tape.length(), now.seed};
            return what >= 0 && what < all.length ? all[what] : NONE;
        }
    }
}
