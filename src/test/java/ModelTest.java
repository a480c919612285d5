import java.util.ArrayDeque;
import java.util.ArrayList;
import java.util.Arrays;
import java.util.Comparator;
import java.util.Deque;
import java.util.HashSet;
import java.util.List;
import java.util.Random;
import java.util.Set;
import java.util.regex.Matcher;
import java.util.regex.Pattern;

/**
 * Long runs of calls, made by a fixed seed, on the class and on a second program that follows the
 * document's words without any care for speed; every answer has to be the same.
 */
public final class ModelTest {
    private static final int BAD = -1, STATE = -2, FULL = -3, NONE = -9, NO = -1000000;

    private record Pic(int wide, int tall, int drop, int weight) { }
    private record Door(int from, int to) { }
    private record Hole(int x, int y) { }

    private static final class World {
        int w = 20, l = 10, gap = 0;
        List<Pic> pics = new ArrayList<>();
        List<Door> doors = new ArrayList<>();
        List<Hole> holes = new ArrayList<>();
        Integer[] at = new Integer[5];

        World copy() {
            World c = new World();
            c.w = w;
            c.l = l;
            c.gap = gap;
            c.pics = new ArrayList<>(pics);
            c.doors = new ArrayList<>(doors);
            c.holes = new ArrayList<>(holes);
            c.at = at.clone();
            return c;
        }

        int hookY(int p) {
            return 2 * l + pics.get(p).tall - 2 * pics.get(p).drop;
        }

        Hole hook(int p, int x) {
            return new Hole(2 * x + pics.get(p).wide, hookY(p));
        }

        /** Takes the wall unit by unit, so that no comparison of ends is shared with the class. */
        boolean fits(int p, int x) {
            for (int unit = x; unit < x + pics.get(p).wide; unit++) {
                if (unit < 0 || unit >= w) {
                    return false;
                }
                for (Door d : doors) {
                    if (unit >= d.from && unit < d.to) {
                        return false;
                    }
                }
            }
            return true;
        }

        boolean apart(int p, int x, int q, int y) {
            int left = x <= y ? p : q;
            int begin = Math.min(x, y), other = Math.max(x, y);
            return other - (begin + pics.get(left).wide) >= gap && x != y;
        }

        boolean canHang(int p, int x) {
            if (!fits(p, x)) {
                return false;
            }
            for (int q = 0; q < pics.size(); q++) {
                if (q != p && at[q] != null && !apart(p, x, q, at[q])) {
                    return false;
                }
            }
            return true;
        }

        int moment(Integer[] where) {
            int sum = 0;
            for (int p = 0; p < pics.size(); p++) {
                if (where[p] != null) {
                    sum += pics.get(p).weight * (hook(p, where[p]).x - w);
                }
            }
            return sum;
        }

        int up() {
            return (int) Arrays.stream(at).filter(x -> x != null).count();
        }

        /** Each row is: bare, off, g, first x, pictures: just as rows are compared. */
        int[] bestRow() {
            List<int[]> rows = new ArrayList<>();
            for (List<Integer> order : orders(pics.size())) {
                for (int g = gap; g <= 20; g++) {
                    for (int x = 0; x < w; x++) {
                        int[] row = rowOf(order, g, x);
                        if (row != null) {
                            rows.add(row);
                        }
                    }
                }
            }
            return pics.isEmpty() ? null : rows.stream().min(Comparator.comparing((int[] r) -> r, Arrays::compare)).orElse(null);
        }

        int[] rowOf(List<Integer> order, int g, int first) {
            Integer[] where = new Integer[5];
            int x = first, bare = 0;
            int[] row = new int[4 + order.size()];
            for (int i = 0; i < order.size(); i++) {
                int p = order.get(i);
                if (!fits(p, x)) {
                    return null;
                }
                where[p] = x;
                bare += holes.contains(hook(p, x)) ? 0 : 1;
                x += pics.get(p).wide + g;
                row[4 + i] = p;
            }
            row[0] = bare;
            row[1] = Math.abs(moment(where));
            row[2] = g;
            row[3] = first;
            return row;
        }

        static List<List<Integer>> orders(int n) {
            List<List<Integer>> all = new ArrayList<>();
            all.add(new ArrayList<>());
            for (int p = 0; p < n; p++) {
                List<List<Integer>> longer = new ArrayList<>();
                for (List<Integer> order : all) {
                    for (int i = 0; i <= order.size(); i++) {
                        List<Integer> more = new ArrayList<>(order);
                        more.add(i, p);
                        longer.add(more);
                    }
                }
                all = longer;
            }
            return all;
        }

        /** Walks the wall from left to right with the set hung so far, at each unit hanging one or none. */
        int most() {
            List<Set<Integer>> sets = new ArrayList<>();
            for (int x = 0; x <= w + 9 + 9; x++) {
                sets.add(new HashSet<>());
            }
            sets.get(0).add(0);
            Set<Integer> all = new HashSet<>();
            for (int x = 0; x <= w; x++) {
                sets.get(x + 1).addAll(sets.get(x));
                all.addAll(sets.get(x));
                for (int set : sets.get(x)) {
                    for (int p = 0; p < pics.size(); p++) {
                        if ((set & 1 << p) == 0 && fits(p, x)) {
                            sets.get(x + pics.get(p).wide + gap).add(set | 1 << p);
                            all.add(set | 1 << p);
                        }
                    }
                }
            }
            return all.stream().min(Comparator.comparingInt((Integer s) -> -Integer.bitCount(s))
                    .thenComparingInt(s -> -weight(s)).thenComparingInt(s -> s)).get();
        }

        int weight(int set) {
            int sum = 0;
            for (int p = 0; p < pics.size(); p++) {
                sum += (set >> p & 1) * pics.get(p).weight;
            }
            return sum;
        }
    }

    private static final class Model {
        private static final Pattern TOKEN = Pattern.compile("[a-z]+|[0-9]+|[^ ]", Pattern.DOTALL);
        StringBuilder text = new StringBuilder();
        World now = new World();
        Deque<World> past = new ArrayDeque<>();
        World[] images = new World[2];
        List<int[]> seen = new ArrayList<>();

        int call(String name, int a, int b) {
            switch (name) {
                case "type": return type(a);
                case "clear": { int n = text.length(); text.setLength(0); return n; }
                case "tells": return tells();
                case "hangs": return hangs(a, b);
                case "takes": return takes(a);
                case "fills": return fills(a);
                case "lines": return lines(a);
                case "undo": return undo();
                case "picture": return picture(a, b);
                case "hole": return hole(a, b);
                case "door": return door(a, b);
                case "moment": return a == 0 ? now.moment(now.at) : a == 1 ? Math.abs(now.moment(now.at)) : NO;
                case "best": return best(a);
                case "places": return places(a, b);
                case "most": return now.most();
                case "sees": return sees(a, b);
                case "forget": { int n = seen.size(); seen.clear(); return n; }
                case "which": return which(a);
                case "keep": return keep(a);
                case "back": return back(a);
                default: return count(a);
            }
        }

        int type(int letter) {
            if (letter != (letter & 255)) {
                return BAD;
            }
            if (text.length() == 120) {
                return FULL;
            }
            text.append((char) letter);
            return text.length();
        }

        int tells() {
            World told = new World();
            int items = parse(told);
            if (items >= 0) {
                done();
                now = told;
                text.setLength(0);
            }
            return items;
        }

        int parse(World told) {
            Matcher m = TOKEN.matcher(text);
            int items = 0, walls = 0;
            List<Integer> numbers = new ArrayList<>();
            String word = null;
            while (m.find()) {
                String token = m.group();
                int fault = -10 - m.start();
                if (word == null) {
                    int room = switch (token) {
                        case "wall" -> 1 - walls;
                        case "pic" -> 5 - told.pics.size();
                        case "door" -> 3 - told.doors.size();
                        case "hole" -> 16 - told.holes.size();
                        default -> 0;
                    };
                    if (room == 0) {
                        return fault;
                    }
                    word = token;
                    numbers.clear();
                } else if (numbers.size() < bounds(word, numbers).length / 2) {
                    int[] bounds = bounds(word, numbers);
                    if (!token.matches("0|[1-9][0-9]?")) {
                        return fault;
                    }
                    int n = Integer.parseInt(token), i = 2 * numbers.size();
                    if (n < bounds[i] || n > bounds[i + 1]) {
                        return fault;
                    }
                    if (word.equals("hole") && numbers.size() == 1 && told.holes.contains(new Hole(numbers.get(0), n))) {
                        return fault;
                    }
                    numbers.add(n);
                } else if (token.equals(";")) {
                    walls += word.equals("wall") ? 1 : 0;
                    tell(told, word, numbers);
                    items++;
                    word = null;
                } else {
                    return fault;
                }
            }
            return word == null ? items : -10 - text.length();
        }

        static int[] bounds(String word, List<Integer> sofar) {
            int last = sofar.isEmpty() ? 0 : sofar.get(sofar.size() - 1);
            return switch (word) {
                case "wall" -> new int[] {10, 40, 5, 20, 0, 9};
                case "pic" -> new int[] {1, 9, 1, 9, 0, last, 1, 9};
                case "door" -> new int[] {0, 39, last + 1, 40};
                default -> new int[] {0, 80, 0, 60};
            };
        }

        static void tell(World told, String word, List<Integer> n) {
            switch (word) {
                case "wall" -> {
                    told.w = n.get(0);
                    told.l = n.get(1);
                    told.gap = n.get(2);
                }
                case "pic" -> told.pics.add(new Pic(n.get(0), n.get(1), n.get(2), n.get(3)));
                case "door" -> told.doors.add(new Door(n.get(0), n.get(1)));
                default -> told.holes.add(new Hole(n.get(0), n.get(1)));
            }
        }

        void done() {
            past.push(now.copy());
            if (past.size() == 7) {
                past.removeLast();
            }
        }

        boolean no(int p) {
            return p < 0 || p >= now.pics.size();
        }

        int hangs(int p, int x) {
            if (no(p) || x < 0 || x > 39) {
                return BAD;
            }
            if (now.at[p] != null || !now.canHang(p, x)) {
                return STATE;
            }
            Hole hook = now.hook(p, x);
            boolean made = !now.holes.contains(hook);
            if (made && now.holes.size() == 16) {
                return FULL;
            }
            done();
            now.at[p] = x;
            if (made) {
                now.holes.add(hook);
            }
            return made ? 1 : 0;
        }

        int takes(int p) {
            if (no(p)) {
                return BAD;
            }
            if (now.at[p] == null) {
                return STATE;
            }
            done();
            int x = now.at[p];
            now.at[p] = null;
            return x;
        }

        int hanger(int k) {
            for (int p = 0; p < now.pics.size(); p++) {
                if (now.at[p] != null && now.hook(p, now.at[p]).equals(now.holes.get(k))) {
                    return p;
                }
            }
            return NONE;
        }

        int fills(int k) {
            if (k < 0 || k >= now.holes.size()) {
                return BAD;
            }
            if (hanger(k) != NONE) {
                return STATE;
            }
            done();
            now.holes.remove(k);
            return now.holes.size();
        }

        int lines(int l) {
            if (l < 5 || l > 20) {
                return BAD;
            }
            if (l == now.l) {
                return STATE;
            }
            done();
            int was = now.l;
            now.l = l;
            now.at = new Integer[5];
            return was;
        }

        int undo() {
            if (past.isEmpty()) {
                return STATE;
            }
            now = past.pop();
            return past.size();
        }

        int picture(int p, int what) {
            if (no(p) || what < 0 || what > 5) {
                return NO;
            }
            Pic pic = now.pics.get(p);
            int hangs = now.at[p] == null ? NONE : now.at[p];
            return new int[] {pic.wide, pic.tall, pic.drop, pic.weight, hangs, now.hookY(p)}[what];
        }

        int hole(int k, int what) {
            if (k < 0 || k >= now.holes.size() || what < 0 || what > 2) {
                return NO;
            }
            return new int[] {now.holes.get(k).x, now.holes.get(k).y, hanger(k)}[what];
        }

        int door(int k, int what) {
            if (k < 0 || k >= now.doors.size() || what < 0 || what > 1) {
                return BAD;
            }
            return what == 0 ? now.doors.get(k).from : now.doors.get(k).to;
        }

        int best(int what) {
            if (what < 0) {
                return BAD;
            }
            int[] row = now.bestRow();
            return row == null || what >= row.length ? NONE : row[what];
        }

        int places(int p, int what) {
            if (no(p) || what < 0 || what > 3) {
                return BAD;
            }
            if (now.at[p] != null) {
                return STATE;
            }
            List<Integer> xs = new ArrayList<>();
            for (int x = -5; x < 60; x++) {
                if (now.canHang(p, x)) {
                    xs.add(x);
                }
            }
            return switch (what) {
                case 0 -> xs.size();
                case 1 -> xs.isEmpty() ? NONE : xs.get(0);
                case 2 -> xs.stream().filter(x -> now.holes.contains(now.hook(p, x))).findFirst().orElse(NONE);
                default -> xs.stream().min(Comparator.comparingInt(x -> offWith(p, x))).orElse(NONE);
            };
        }

        int offWith(int p, int x) {
            Integer[] where = now.at.clone();
            where[p] = x;
            return Math.abs(now.moment(where));
        }

        int sees(int what, int n) {
            if (what < 0 || what > 3 || n < -99 || n > 99) {
                return BAD;
            }
            if (seen.size() == 6) {
                return FULL;
            }
            seen.add(new int[] {what, n});
            return seen.size();
        }

        int which(int what) {
            if (what < 0 || what > 1) {
                return BAD;
            }
            List<Integer> all = new ArrayList<>();
            for (int p = 0; p < now.pics.size(); p++) {
                int[] of = {picture(p, 0), picture(p, 1), picture(p, 3), picture(p, 5)};
                if (seen.stream().allMatch(s -> of[s[0]] == s[1])) {
                    all.add(p);
                }
            }
            return what == 0 ? all.size() : all.isEmpty() ? NONE : all.get(0);
        }

        int keep(int image) {
            if (image < 0 || image > 1) {
                return BAD;
            }
            images[image] = now.copy();
            return now.up();
        }

        int back(int image) {
            if (image < 0 || image > 1) {
                return BAD;
            }
            if (images[image] == null) {
                return STATE;
            }
            now = images[image].copy();
            past.clear();
            return now.up();
        }

        int count(int what) {
            if (what < 0 || what > 9) {
                return BAD;
            }
            return new int[] {now.w, now.l, now.gap, now.pics.size(), now.doors.size(), now.holes.size(),
                now.up(), seen.size(), text.length(), past.size()}[what];
        }
    }

    private static int onClass(HungPictures h, String name, int a, int b) {
        return switch (name) {
            case "type" -> h.type(a);
            case "clear" -> h.clear();
            case "tells" -> h.tells();
            case "hangs" -> h.hangs(a, b);
            case "takes" -> h.takes(a);
            case "fills" -> h.fills(a);
            case "lines" -> h.lines(a);
            case "undo" -> h.undo();
            case "picture" -> h.picture(a, b);
            case "hole" -> h.hole(a, b);
            case "door" -> h.door(a, b);
            case "moment" -> h.moment(a);
            case "best" -> h.best(a);
            case "places" -> h.places(a, b);
            case "most" -> h.most();
            case "sees" -> h.sees(a, b);
            case "forget" -> h.forget();
            case "which" -> h.which(a);
            case "keep" -> h.keep(a);
            case "back" -> h.back(a);
            default -> h.count(a);
        };
    }

    private static final int CALLS = 512;
    private static long looked = 0;

    private final Random random;
    private final HungPictures real = new HungPictures();
    private final Model model = new Model();
    private final StringBuilder story = new StringBuilder();
    private int calls = 0;
    private boolean same = true;

    private ModelTest(long seed) {
        random = new Random(seed);
    }

    private int call(String name, int a, int b) {
        if (!same || calls >= CALLS) {
            return NONE;
        }
        calls++;
        looked++;
        int got = onClass(real, name, a, b);
        int want = model.call(name, a, b);
        story.append(name).append('(').append(a).append(", ").append(b).append(") ").append(want).append('\n');
        if (got != want) {
            same = false;
            System.out.println(story + "the last one answered " + got);
        }
        return want;
    }

    private int upTo(int n) {
        return random.nextInt(n + 1);
    }

    /** Now and then a number just outside, or far outside, of 0 to n. */
    private int near(int n) {
        switch (random.nextInt(24)) {
            case 0: return -1;
            case 1: return n + 1;
            case 2: return random.nextInt(8) == 0 ? random.nextInt() : n;
            default: return n < 0 ? 0 : upTo(n);
        }
    }

    private String item() {
        switch (random.nextInt(8)) {
            case 0:
                return "wall" + (10 + upTo(30)) + " " + (5 + upTo(15)) + " " + (random.nextBoolean() ? upTo(9) : upTo(1)) + ";";
            case 1: {
                int from = upTo(39);
                return "door" + from + " " + (from + 1 + upTo(Math.min(3, 39 - from))) + ";";
            }
            case 2: case 3:
                return "hole" + upTo(80) + " " + upTo(60) + ";";
            default: {
                int wide = 1 + upTo(random.nextBoolean() ? 8 : 3), tall = 1 + upTo(random.nextBoolean() ? 8 : 2);
                return "pic" + wide + " " + tall + " " + upTo(tall) + " " + (1 + upTo(8)) + ";";
            }
        }
    }

    private String text() {
        StringBuilder s = new StringBuilder();
        int items = upTo(9);
        for (int i = 0; i < items; i++) {
            s.append(item());
        }
        int spoilt = random.nextInt(3) == 0 ? 1 + upTo(2) : 0;
        for (int i = 0; i < spoilt && s.length() > 0; i++) {
            spoil(s);
        }
        return s.toString();
    }

    private void spoil(StringBuilder s) {
        int place = random.nextInt(s.length());
        String letters = "0123456789 ;;wallpicdoorhole 00 1\tX";
        char letter = random.nextInt(12) == 0 ? (char) random.nextInt(256) : letters.charAt(random.nextInt(letters.length()));
        switch (random.nextInt(5)) {
            case 0: s.deleteCharAt(place); break;
            case 1: s.setCharAt(place, letter); break;
            case 2: s.setLength(place); break;
            case 3: s.insert(place, ' '); break;
            default: s.insert(place, letter);
        }
    }

    private void tell(String text) {
        for (int i = 0; i < text.length(); i++) {
            call("type", text.charAt(i), 0);
        }
        if (call("tells", 0, 0) < 0 && random.nextInt(8) != 0) {
            call("clear", 0, 0);
        }
    }

    /** A place that is often one where the picture can hang, and often one with an old hole. */
    private int goodX(int p) {
        int x = p >= 0 && p < model.now.pics.size() && model.now.at[p] == null && random.nextInt(3) != 0
                ? model.places(p, 1 + random.nextInt(3)) : near(39);
        return x == NONE ? near(39) : x;
    }

    private void change() {
        int p = near(model.now.pics.size() - 1);
        switch (random.nextInt(16)) {
            case 0: call("lines", 4 + upTo(17), 0); break;
            case 1: call("undo", 0, 0); break;
            case 2: call("fills", near(model.now.holes.size() - 1), 0); break;
            case 3: call("keep", near(1), 0); break;
            case 4: call(random.nextInt(3) == 0 ? "back" : "undo", near(1), 0); break;
            case 5: call("sees", near(3), random.nextInt(10) == 0 ? random.nextInt(203) - 101 : upTo(9)); break;
            case 6: call("sees", 3, 2 * model.now.l + random.nextInt(5)); break;
            case 7: call(random.nextInt(2) == 0 ? "forget" : "undo", 0, 0); break;
            case 8: case 9: case 10: call("takes", p, 0); break;
            default: call("hangs", p, goodX(p));
        }
    }

    private void ask() {
        int pics = model.now.pics.size();
        switch (random.nextInt(11)) {
            case 0: call("picture", near(pics - 1), near(5)); break;
            case 1: call("hole", near(model.now.holes.size() - 1), near(2)); break;
            case 2: call("door", near(model.now.doors.size() - 1), near(1)); break;
            case 3: call("moment", near(1), 0); break;
            case 4: call("most", 0, 0); break;
            case 5: call("which", near(1), 0); break;
            case 6: case 7: call("places", near(pics - 1), near(3)); break;
            default: call("count", near(9), 0);
        }
    }

    private void askBest() {
        int[] row = model.now.bestRow();
        for (int what = 0; what < (row == null ? 1 : row.length + 1); what++) {
            int want = row == null || what >= row.length ? NONE : row[what];
            if (same && real.best(what) != want) {
                same = false;
                System.out.println(story + "best(" + what + ") is not " + want);
            }
            calls++;
            looked++;
        }
    }

    private boolean run() {
        tell(text());
        while (same && calls < CALLS - 12) {
            int kind = random.nextInt(100);
            if (kind < 2) {
                tell(text());
            } else if (kind < 55) {
                change();
            } else if (kind < 58) {
                askBest();
            } else {
                ask();
            }
        }
        return same;
    }

    public static void main(String[] args) {
        int runs = args.length > 0 ? Integer.parseInt(args[0]) : 1500;
        long first = args.length > 1 ? Long.parseLong(args[1]) : 1;
        int wrong = 0;
        for (long seed = first; seed < first + runs && wrong < 3; seed++) {
            if (!new ModelTest(seed).run()) {
                wrong++;
                System.out.println("by seed " + seed);
            }
        }
        System.out.println(looked + " answers looked at, " + wrong + " runs with one not as due");
        if (wrong != 0) {
            System.exit(1);
        }
    }
}
