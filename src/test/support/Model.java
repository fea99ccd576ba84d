import java.util.ArrayList;
import java.util.Arrays;
import java.util.HashMap;
import java.util.List;
import java.util.Map;
import java.util.TreeSet;

/** The document once more, in the most naive way: maps, all assignments one by one, no tables kept. */
public final class Model {
    static final class Fault extends RuntimeException {
        private static final long serialVersionUID = 1;
        final int kind;
        final int place;

        Fault(int kind, int place) {
            this.kind = kind;
            this.place = place;
        }
    }

    static final class Person {
        String name;
        int told;
        int lamp;
        String steps;
    }

    static final class Word {
        String name;
        Map<Integer, Integer> lights = new HashMap<>();
    }

    static final class Hymn {
        int word;
        int beat;
    }

    static final class Ground {
        int wide;
        int high;
        TreeSet<Integer> walls = new TreeSet<>();
        List<Person> persons = new ArrayList<>();
        List<Word> words = new ArrayList<>();
        List<Hymn> hymns = new ArrayList<>();
        int statements;
    }

    private static final String LETTERS = "neswx";
    private static final List<String> OWN =
            Arrays.asList("ground", "wall", "person", "at", "lamp", "walks", "word", "hymn", "beat");

    private StringBuilder tape = new StringBuilder();
    private Ground g = new Ground();
    private int faultKind;
    private int faultPlace = -1;
    private int[] picture;
    private List<Object[]> acts = new ArrayList<>();
    private int[] image = new int[0];

    // ---- the tape

    public int feed(int... numbers) {
        if (tape.length() + 20 > 1600) {
            return -1;
        }
        for (int number : numbers) {
            for (int k = 3; k >= 0; k--) {
                tape.append((char) (number >>> 8 * k & 255));
            }
        }
        return tape.length();
    }

    public boolean end(int n) {
        if (n < 0 || n > tape.length()) {
            return false;
        }
        tape.setLength(n);
        return true;
    }

    private String take() {
        String text = tape.toString();
        tape.setLength(0);
        return text;
    }

    // ---- reading by hand: a position in a text, and what is asked for there

    private static final class Scan {
        final String text;
        int at;

        Scan(String text) {
            this.text = text;
        }

        char peek() {
            return at < text.length() ? text.charAt(at) : 0;
        }

        static boolean low(char c) {
            return c >= 'a' && c <= 'z';
        }

        static boolean digit(char c) {
            return c >= '0' && c <= '9';
        }

        void blanks() {
            while (at < text.length() && (peek() == ' ' || peek() == '\n')) {
                at++;
            }
        }

        /** A word or number right behind another one can't go on. */
        void unglued() {
            if (at > 0 && at < text.length()) {
                boolean here = low(peek()) || digit(peek());
                boolean before = low(text.charAt(at - 1)) || digit(text.charAt(at - 1));
                if (here && before) {
                    throw new Fault(1, at);
                }
            }
        }

        boolean over() {
            blanks();
            return at >= text.length();
        }

        String seen() {
            blanks();
            int stop = at;
            while (stop < text.length() && low(text.charAt(stop))) {
                stop++;
            }
            return text.substring(at, stop);
        }

        boolean glued() {
            blanks();
            try {
                unglued();
                return false;
            } catch (Fault fault) {
                return true;
            }
        }

        boolean is(String word) {
            return !glued() && seen().equals(word);
        }

        void word(String word) {
            blanks();
            unglued();
            if (!seen().equals(word)) {
                throw new Fault(1, at);
            }
            at += word.length();
        }

        boolean isSign(char sign) {
            return !over() && peek() == sign;
        }

        void sign(char sign) {
            if (!isSign(sign)) {
                throw new Fault(1, at);
            }
            at++;
        }

        int number(int lowest, int highest) {
            blanks();
            unglued();
            int from = at;
            int value = 0;
            while (digit(peek())) {
                if (at - from == 4) {
                    throw new Fault(1, at);
                }
                value = 10 * value + (peek() - '0');
                at++;
            }
            if (at == from) {
                throw new Fault(1, at);
            }
            if (value < lowest || value > highest) {
                throw new Fault(2, from);
            }
            return value;
        }

        String name() {
            blanks();
            unglued();
            String name = seen();
            if (name.isEmpty() || OWN.contains(name)) {
                throw new Fault(1, at);
            }
            if (name.length() > 6) {
                throw new Fault(1, at + 6);
            }
            at += name.length();
            return name;
        }

        String steps() {
            blanks();
            unglued();
            String steps = seen();
            if (!steps.matches("[neswx]{1,12}")) {
                throw new Fault(1, at);
            }
            at += steps.length();
            return steps;
        }
    }

    public int text() {
        try {
            g = parse(take());
            faultKind = 0;
            faultPlace = -1;
            acts.clear();
            picture = null;
            return g.statements;
        } catch (Fault fault) {
            faultKind = fault.kind;
            faultPlace = fault.place;
            return -1;
        }
    }

    private static Ground parse(String text) {
        Scan s = new Scan(text);
        Ground n = new Ground();
        int wallStatements = 0;
        s.blanks();
        s.word("ground");
        n.wide = s.number(3, 9);
        n.high = s.number(3, 6);
        s.sign(';');
        n.statements = 1;
        while (!s.over()) {
            String first = s.seen();
            int start = s.at;
            if (first.equals("wall")) {
                limit(wallStatements, 20, start);
                s.word("wall");
                wallStatements++;
                int[] cell = cell(s, n);
                for (Person p : n.persons) {
                    if (p.told == cell[0]) {
                        throw new Fault(2, cell[1]);
                    }
                }
                n.walls.add(cell[0]);
            } else if (first.equals("person")) {
                limit(n.persons.size(), 10, start);
                s.word("person");
                parsePerson(s, n);
            } else if (first.equals("word")) {
                limit(n.words.size(), 8, start);
                s.word("word");
                parseWord(s, n);
            } else if (first.equals("hymn")) {
                limit(n.hymns.size(), 10, start);
                s.word("hymn");
                s.blanks();
                int at = s.at;
                String name = s.name();
                Hymn hymn = new Hymn();
                hymn.word = -1;
                for (int k = 0; k < n.words.size(); k++) {
                    if (n.words.get(k).name.equals(name)) {
                        hymn.word = k;
                    }
                }
                if (hymn.word < 0) {
                    throw new Fault(3, at);
                }
                s.word("beat");
                hymn.beat = s.number(0, 99);
                n.hymns.add(hymn);
            } else {
                throw new Fault(1, start);
            }
            s.sign(';');
            n.statements++;
        }
        return n;
    }

    private static void limit(int count, int most, int at) {
        if (count == most) {
            throw new Fault(5, at);
        }
    }

    private static int[] cell(Scan s, Ground n) {
        int across = s.number(0, n.wide - 1);
        s.blanks();
        int at = s.at;
        int down = s.number(0, n.high - 1);
        return new int[] {down * n.wide + across, at};
    }

    private static String newName(Scan s, Ground n) {
        s.blanks();
        int at = s.at;
        String name = s.name();
        for (Person p : n.persons) {
            if (p.name.equals(name)) {
                throw new Fault(3, at);
            }
        }
        for (Word w : n.words) {
            if (w.name.equals(name)) {
                throw new Fault(3, at);
            }
        }
        return name;
    }

    private static void parsePerson(Scan s, Ground n) {
        Person p = new Person();
        p.name = newName(s, n);
        s.word("at");
        int[] cell = cell(s, n);
        if (n.walls.contains(cell[0])) {
            throw new Fault(2, cell[1]);
        }
        for (Person other : n.persons) {
            if (other.told == cell[0]) {
                throw new Fault(2, cell[1]);
            }
        }
        p.told = cell[0];
        s.word("lamp");
        p.lamp = s.number(0, 2);
        s.word("walks");
        p.steps = s.steps();
        s.blanks();
        if (s.isSign(';')) {
            n.persons.add(p);
        }
    }

    private static void parseWord(Scan s, Ground n) {
        Word w = new Word();
        w.name = newName(s, n);
        do {
            s.word("at");
            int[] cell = cell(s, n);
            if (w.lights.containsKey(cell[0])) {
                throw new Fault(2, cell[1]);
            }
            s.word("lamp");
            w.lights.put(cell[0], s.number(1, 2));
        } while (w.lights.size() < 8 && s.is("at"));
        if (s.isSign(';')) {
            n.words.add(w);
        }
    }

    public int fault(int what) {
        return what == 0 ? faultKind : what == 1 ? faultPlace : -1;
    }

    // ---- the ground

    public int ground(int what) {
        switch (what) {
            case 0: return g.wide;
            case 1: return g.high;
            case 2: return g.walls.size();
            case 3: return g.persons.size();
            case 4: return (int) g.persons.stream().filter(p -> p.lamp > 0).count();
            case 5: return g.words.size();
            case 6: return g.hymns.size();
            case 7: return (int) g.hymns.stream().filter(h -> far(h.beat, h.word, false) == 0).count();
            case 8: return acts.size();
            default: return -1;
        }
    }

    private boolean isPerson(int k) {
        return k >= 0 && k < g.persons.size();
    }

    private boolean isWord(int k) {
        return k >= 0 && k < g.words.size();
    }

    private static boolean isBeat(int k) {
        return k >= 0 && k < 100;
    }

    private boolean isCell(int k) {
        return k >= 0 && k < g.wide * g.high;
    }

    public int letter(int kind, int which, int k) {
        String name = kind == 0 && isPerson(which) ? g.persons.get(which).name
                : kind == 1 && isWord(which) ? g.words.get(which).name : null;
        if (name == null || k < 0 || k > 5) {
            return -1;
        }
        return k < name.length() ? name.charAt(k) - 'a' + 1 : 0;
    }

    private static String rhyme(String steps) {
        for (int length = 1; ; length++) {
            StringBuilder made = new StringBuilder();
            while (made.length() < steps.length()) {
                made.append(steps, 0, length);
            }
            if (made.toString().equals(steps)) {
                return steps.substring(0, length);
            }
        }
    }

    public int person(int person, int what) {
        if (!isPerson(person)) {
            return -1;
        }
        Person p = g.persons.get(person);
        switch (what) {
            case 0: return p.told;
            case 1: return p.lamp;
            case 2: return p.steps.length();
            case 3: return rhyme(p.steps).length();
            case 4:
                int lost = 0;
                for (Hymn h : g.hymns) {
                    int before = far(h.beat, h.word, false);
                    int lamp = p.lamp;
                    p.lamp = 0;
                    if (before == 0 && far(h.beat, h.word, false) != 0) {
                        lost++;
                    }
                    p.lamp = lamp;
                }
                return lost;
            default:
                return what >= 10 && what < 10 + p.steps.length() ? LETTERS.indexOf(p.steps.charAt(what - 10)) : -1;
        }
    }

    public int word(int word, int cell) {
        if (!isWord(word) || cell != -1 && !isCell(cell)) {
            return -1;
        }
        Map<Integer, Integer> lights = g.words.get(word).lights;
        return cell == -1 ? lights.size() : lights.getOrDefault(cell, 0);
    }

    public int hymn(int hymn, int what) {
        if (hymn < 0 || hymn >= g.hymns.size()) {
            return -1;
        }
        Hymn h = g.hymns.get(hymn);
        int far = far(h.beat, h.word, false);
        return what == 0 ? h.word : what == 1 ? h.beat : what == 2 ? (far == 0 ? 1 : 0) : what == 3 ? far : -1;
    }

    // ---- beats

    private int go(int cell, char step) {
        int across = cell % g.wide;
        int down = cell / g.wide;
        if (step == 'n') {
            down--;
        } else if (step == 'e') {
            across++;
        } else if (step == 's') {
            down++;
        } else if (step == 'w') {
            across--;
        }
        if (across < 0 || across >= g.wide || down < 0 || down >= g.high || g.walls.contains(down * g.wide + across)) {
            return cell;
        }
        return down * g.wide + across;
    }

    /** Where he is in a BEAT, if he makes no step in the BEAT without (0: he makes all). */
    private int walk(Person p, int beat, int without) {
        int cell = p.told;
        for (int t = 1; t <= beat; t++) {
            if (t != without) {
                cell = go(cell, p.steps.charAt((t - 1) % p.steps.length()));
            }
        }
        return cell;
    }

    public int where(int person, int beat) {
        return isPerson(person) && isBeat(beat) ? walk(g.persons.get(person), beat, 0) : -1;
    }

    private int[] lights(int beat, boolean below) {
        int[] lights = new int[g.wide * g.high];
        for (Person p : g.persons) {
            int cell = walk(p, beat, 0);
            lights[cell] = Math.max(lights[cell], p.lamp);
        }
        if (!below) {
            return lights;
        }
        int[] turned = new int[lights.length];
        for (int cell = 0; cell < lights.length; cell++) {
            turned[(g.high - 1 - cell / g.wide) * g.wide + cell % g.wide] = lights[cell];
        }
        return turned;
    }

    public int lit(int beat, int cell) {
        return isBeat(beat) && isCell(cell) ? lights(beat, false)[cell] : -1;
    }

    private int[] clashIn(int beat) {
        for (int a = 0; a < g.persons.size(); a++) {
            for (int b = a + 1; b < g.persons.size(); b++) {
                boolean same = where(a, beat) == where(b, beat);
                boolean changed = beat > 0 && where(a, beat) == where(b, beat - 1) && where(b, beat) == where(a, beat - 1);
                if (same || changed) {
                    return new int[] {beat, a, b};
                }
            }
        }
        return null;
    }

    public int clash(int what) {
        for (int beat = 0; beat < 100 && what >= 0 && what <= 2; beat++) {
            int[] clash = clashIn(beat);
            if (clash != null) {
                return clash[what];
            }
        }
        return -1;
    }

    public int clashes() {
        int count = 0;
        for (int beat = 0; beat < 100; beat++) {
            count += clashIn(beat) == null ? 0 : 1;
        }
        return count;
    }

    public int still(int person) {
        for (int beat = 1; beat < 100 && isPerson(person); beat++) {
            if (where(person, beat) == where(person, beat - 1)) {
                return beat;
            }
        }
        return -1;
    }

    // ---- what is read

    private int far(int[] lights, int word) {
        int far = 0;
        for (int cell = 0; cell < lights.length; cell++) {
            far += lights[cell] == g.words.get(word).lights.getOrDefault(cell, 0) ? 0 : 1;
        }
        return far;
    }

    public int far(int beat, int word, boolean below) {
        return isBeat(beat) && isWord(word) ? far(lights(beat, below), word) : -1;
    }

    public int read(int beat, boolean below) {
        for (int word = 0; isBeat(beat) && word < g.words.size(); word++) {
            if (far(beat, word, below) == 0) {
                return word;
            }
        }
        return -1;
    }

    public int nearest(int beat, int what) {
        if (!isBeat(beat)) {
            return -1;
        }
        if (what == 3) {
            return (int) Arrays.stream(lights(beat, false)).filter(v -> v > 0).count();
        }
        if (g.words.isEmpty() || what < 0 || what > 2) {
            return -1;
        }
        List<Integer> order = new ArrayList<>();
        for (int word = 0; word < g.words.size(); word++) {
            order.add(100 * far(beat, word, false) + word);
        }
        order.sort(null);
        if (what == 2) {
            return order.size() == 1 ? 99 : order.get(1) / 100 - order.get(0) / 100;
        }
        return what == 0 ? order.get(0) % 100 : order.get(0) / 100;
    }

    public int said(int k) {
        List<Integer> all = new ArrayList<>();
        for (int beat = 0; beat < 100; beat++) {
            if (read(beat, false) >= 0) {
                all.add(100 * beat + read(beat, false));
            }
        }
        return k == -1 ? all.size() : k >= 0 && k < all.size() ? all.get(k) : -1;
    }

    public int between(int from, int to) {
        if (!isBeat(from) || !isBeat(to) || from > to) {
            return -1;
        }
        int count = 0;
        for (int beat = 0; beat < 100; beat++) {
            count += beat > from && beat < to && read(beat, false) >= 0 ? 1 : 0;
        }
        return count;
    }

    public int danger(int beat) {
        int found = -1;
        int worst = 1000;
        for (int k = 0; isBeat(beat) && !g.words.isEmpty() && k < g.persons.size(); k++) {
            Person p = g.persons.get(k);
            int lamp = p.lamp;
            if (lamp > 0) {
                int now = nearest(beat, 0);
                p.lamp = 0;
                int value = nearest(beat, 0) != now ? -1 : nearest(beat, 2);
                p.lamp = lamp;
                if (value < worst) {
                    worst = value;
                    found = k;
                }
            }
        }
        return found;
    }

    // ---- from word to word

    public int steps(int from, int to) {
        if (!isCell(from) || !isCell(to) || g.walls.contains(from) || g.walls.contains(to)) {
            return -1;
        }
        TreeSet<Integer> reached = new TreeSet<>();
        reached.add(from);
        for (int steps = 0; steps < 60; steps++) {
            if (reached.contains(to)) {
                return steps;
            }
            TreeSet<Integer> more = new TreeSet<>(reached);
            for (int cell : reached) {
                for (char step : "nesw".toCharArray()) {
                    more.add(go(cell, step));
                }
            }
            reached = more;
        }
        return -1;
    }

    private static final class Plan {
        List<Integer> goers = new ArrayList<>();
        int[] cells;
        int total = Integer.MAX_VALUE;
        int soon = Integer.MAX_VALUE;
        int[][] need;
        List<Integer> goals;
    }

    private Plan plan(int beat, int word) {
        if (!isBeat(beat) || !isWord(word)) {
            return null;
        }
        Plan plan = new Plan();
        Map<Integer, Integer> lights = g.words.get(word).lights;
        plan.goals = new ArrayList<>(new TreeSet<>(lights.keySet()));
        for (int k = 0; k < g.persons.size(); k++) {
            if (g.persons.get(k).lamp > 0) {
                plan.goers.add(k);
            }
        }
        if (plan.goers.size() != plan.goals.size()) {
            return null;
        }
        plan.need = new int[plan.goers.size()][plan.goers.size()];
        for (int a = 0; a < plan.goers.size(); a++) {
            for (int b = 0; b < plan.goals.size(); b++) {
                Person p = g.persons.get(plan.goers.get(a));
                int goal = plan.goals.get(b);
                plan.need[a][b] = lights.get(goal) == p.lamp ? steps(walk(p, beat, 0), goal) : -1;
            }
        }
        tryAll(plan, new int[plan.goers.size()], 0, 0, 0, 0);
        return plan.cells == null ? null : plan;
    }

    private void tryAll(Plan plan, int[] cells, int goer, int used, int total, int most) {
        if (goer == cells.length) {
            // cells come in ascending order, so the first of like ones is kept
            if (total < plan.total) {
                plan.total = total;
                plan.cells = cells.clone();
            }
            plan.soon = Math.min(plan.soon, most);
            return;
        }
        for (int b = 0; b < cells.length; b++) {
            if ((used >> b & 1) == 0 && plan.need[goer][b] >= 0) {
                cells[goer] = plan.goals.get(b);
                tryAll(plan, cells, goer + 1, used | 1 << b, total + plan.need[goer][b], Math.max(most, plan.need[goer][b]));
            }
        }
    }

    public int least(int beat, int word, int k) {
        Plan plan = plan(beat, word);
        if (plan == null) {
            return -1;
        }
        return k == -1 ? plan.total : k >= 0 && k < plan.cells.length ? plan.cells[k] : -1;
    }

    public int soon(int beat, int word) {
        Plan plan = plan(beat, word);
        return plan == null ? -1 : plan.soon;
    }

    private String wayOf(int beat, int word, int person) {
        Plan plan = plan(beat, word);
        if (plan == null || !plan.goers.contains(person)) {
            return null;
        }
        int cell = where(person, beat);
        int goal = plan.cells[plan.goers.indexOf(person)];
        StringBuilder way = new StringBuilder();
        while (cell != goal) {
            for (char step : "nesw".toCharArray()) {
                int next = go(cell, step);
                if (next != cell && steps(next, goal) < steps(cell, goal)) {
                    way.append(step);
                    cell = next;
                    break;
                }
            }
        }
        return way.toString();
    }

    public int way(int beat, int word, int person, int k) {
        String way = wayOf(beat, word, person);
        return way == null || k < 0 || k >= way.length() ? -1 : LETTERS.indexOf(way.charAt(k));
    }

    // ---- who missed

    public boolean paint() {
        String text = take();
        if (g.wide == 0 || text.length() != g.wide * g.high || !text.matches("[\0\1\2]*")) {
            return false;
        }
        picture = text.chars().toArray();
        return true;
    }

    public int missed(int beat, int k) {
        if (picture == null || !isBeat(beat)) {
            return -1;
        }
        List<Integer> all = new ArrayList<>();
        for (int person = 0; person < g.persons.size(); person++) {
            for (int without = 1; without <= beat; without++) {
                if (where(person, without) != where(person, without - 1)) {
                    int[] lights = new int[picture.length];
                    for (int other = 0; other < g.persons.size(); other++) {
                        Person p = g.persons.get(other);
                        int cell = walk(p, beat, other == person ? without : 0);
                        lights[cell] = Math.max(lights[cell], p.lamp);
                    }
                    if (Arrays.equals(lights, picture)) {
                        all.add(100 * person + without);
                    }
                }
            }
        }
        return k == -1 ? all.size() : k >= 0 && k < all.size() ? all.get(k) : -1;
    }

    public int alike(int person) {
        Map<String, Integer> sorts = new HashMap<>();
        for (Person p : g.persons) {
            sorts.merge(rhyme(p.steps), 1, Integer::sum);
        }
        return person == -1 ? sorts.size() : isPerson(person) ? sorts.get(rhyme(g.persons.get(person).steps)) : -1;
    }

    // ---- acts

    private void act(int person, int lamp, String steps) {
        Person p = g.persons.get(person);
        acts.add(new Object[] {p, p.lamp, p.steps});
        if (acts.size() > 20) {
            acts.remove(0);
        }
        p.lamp = lamp;
        p.steps = steps;
    }

    public boolean teach(int person) {
        String steps = take();
        if (!isPerson(person) || !steps.matches("[neswx]{1,12}")) {
            return false;
        }
        act(person, g.persons.get(person).lamp, steps);
        return true;
    }

    public boolean lamp(int person, int lamp) {
        if (!isPerson(person) || lamp < 0 || lamp > 2 || g.persons.get(person).lamp == lamp) {
            return false;
        }
        act(person, lamp, g.persons.get(person).steps);
        return true;
    }

    public int learn(int person, int word) {
        String way = wayOf(0, word, person);
        if (way == null) {
            return -1;
        }
        StringBuilder steps = new StringBuilder(way);
        while (steps.length() < soon(0, word)) {
            steps.append('x');
        }
        if (steps.length() == 0 || steps.length() > 12) {
            return -1;
        }
        act(person, g.persons.get(person).lamp, steps.toString());
        return steps.length();
    }

    public boolean undo() {
        if (acts.isEmpty()) {
            return false;
        }
        Object[] act = acts.remove(acts.size() - 1);
        Person p = (Person) act[0];
        p.lamp = (Integer) act[1];
        p.steps = (String) act[2];
        return true;
    }

    // ---- questions, read anew for each BEAT

    private final class Asking {
        final Scan s;
        final int beat;
        int open;

        Asking(String text, int beat) {
            s = new Scan(text);
            this.beat = beat;
        }

        long whole(boolean[] isTest) {
            s.blanks();
            String first = s.seen();
            if (!Arrays.asList("first", "last", "often", "total", "most", "least").contains(first)) {
                throw new Fault(1, s.at);
            }
            s.word(first);
            isTest[0] = Arrays.asList("first", "last", "often").contains(first);
            long value = isTest[0] ? (test() ? 1 : 0) : sum();
            if (!s.over()) {
                throw new Fault(1, s.at);
            }
            return value;
        }

        void open(String what) {
            s.blanks();
            if (!what.equals("(") && !what.equals("[")) {
                s.unglued();
            }
            if (open == 6) {
                throw new Fault(4, s.at);
            }
            open++;
            s.at += what.length();
        }

        boolean test() {
            boolean value = both();
            while (s.is("or")) {
                s.word("or");
                value |= both();
            }
            return value;
        }

        boolean both() {
            boolean value = fact();
            while (s.is("and")) {
                s.word("and");
                value &= fact();
            }
            return value;
        }

        boolean fact() {
            if (s.is("not")) {
                open("not");
                boolean value = !fact();
                open--;
                return value;
            }
            if (s.isSign('[')) {
                open("[");
                boolean value = test();
                s.sign(']');
                open--;
                return value;
            }
            if (s.is("all")) {
                s.word("all");
                return true;
            }
            long left = sum();
            for (char sign : "<>=".toCharArray()) {
                if (s.isSign(sign)) {
                    s.sign(sign);
                    long right = sum();
                    return sign == '<' ? left < right : sign == '>' ? left > right : left == right;
                }
            }
            throw new Fault(1, s.at);
        }

        long held(long value) {
            return value > 1000000 ? 1000000 : value < -1000000 ? -1000000 : value;
        }

        long sum() {
            long value = product();
            while (s.isSign('+') || s.isSign('-')) {
                char sign = s.peek();
                s.sign(sign);
                long more = product();
                value = held(sign == '+' ? value + more : value - more);
            }
            return value;
        }

        long product() {
            long value = part();
            while (s.isSign('*') || s.isSign('/')) {
                char sign = s.peek();
                s.sign(sign);
                long more = part();
                value = sign == '*' ? held(value * more) : more == 0 ? 0 : (long) Math.floor((double) value / more);
            }
            return value;
        }

        long part() {
            s.blanks();
            if (Scan.digit(s.peek())) {
                return s.number(0, 9999);
            }
            if (s.isSign('(')) {
                open("(");
                long value = sum();
                s.sign(')');
                open--;
                return value;
            }
            for (String word : Arrays.asList("beat", "clash", "lit", "read")) {
                if (s.is(word)) {
                    s.word(word);
                    return word.equals("beat") ? beat : word.equals("clash") ? (clashIn(beat) == null ? 0 : 1)
                            : word.equals("lit") ? nearest(beat, 3) : Model.this.read(beat, false) + 1;
                }
            }
            for (String word : Arrays.asList("at", "far", "glow")) {
                if (s.is(word)) {
                    open(word);
                    long value = part();
                    open--;
                    int number = (int) value;
                    return word.equals("at") ? (isPerson(number) ? where(number, beat) : 99)
                            : word.equals("far") ? (isWord(number) ? Model.this.far(beat, number, false) : 99)
                            : isCell(number) ? Model.this.lit(beat, number) : 0;
                }
            }
            for (String word : Arrays.asList("min", "max")) {
                if (s.is(word)) {
                    s.word(word);
                    s.blanks();
                    if (!s.isSign('(')) {
                        throw new Fault(1, s.at);
                    }
                    open("(");
                    long left = sum();
                    s.sign(',');
                    long right = sum();
                    s.sign(')');
                    open--;
                    return word.equals("min") ? Math.min(left, right) : Math.max(left, right);
                }
            }
            throw new Fault(1, s.at);
        }
    }

    public long ask() {
        String text = take();
        if (g.wide == 0) {
            return -1000000000000000L;
        }
        String first = new Scan(text).seen();
        List<Long> values = new ArrayList<>();
        try {
            for (int beat = 0; beat < 100; beat++) {
                values.add(new Asking(text, beat).whole(new boolean[1]));
            }
        } catch (Fault fault) {
            faultKind = fault.kind;
            faultPlace = fault.place;
            return -1000000000000000L;
        }
        faultKind = 0;
        faultPlace = -1;
        switch (first) {
            case "first": return values.indexOf(1L);
            case "last": return values.lastIndexOf(1L);
            case "most": return values.stream().max(Long::compare).get();
            case "least": return values.stream().min(Long::compare).get();
            default: return values.stream().mapToLong(v -> v).sum();
        }
    }

    // ---- images

    private int[] imageNow() {
        List<Integer> all = new ArrayList<>();
        for (Person p : g.persons) {
            all.add(p.lamp);
            all.add(p.steps.length());
            for (char step : p.steps.toCharArray()) {
                all.add(LETTERS.indexOf(step));
            }
        }
        int sum = 109;
        for (int octet : all) {
            sum = (3 * sum + octet) % 251;
        }
        all.add(sum);
        return all.stream().mapToInt(v -> v).toArray();
    }

    public int image() {
        image = imageNow();
        return image.length;
    }

    public int octet(int k) {
        return k >= 0 && k < image.length ? image[k] : -1;
    }

    public boolean on() {
        String text = take();
        if (g.wide == 0) {
            return false;
        }
        List<Integer> lamps = new ArrayList<>();
        List<String> steps = new ArrayList<>();
        int at = 0;
        int sum = 109;
        for (int k = 0; k < text.length() - 1; k++) {
            sum = (3 * sum + text.charAt(k)) % 251;
        }
        if (text.isEmpty() || text.charAt(text.length() - 1) != sum) {
            return false;
        }
        String body = text.substring(0, text.length() - 1);
        for (int k = 0; k < g.persons.size(); k++) {
            if (at + 2 > body.length() || body.charAt(at) > 2) {
                return false;
            }
            int count = body.charAt(at + 1);
            if (count < 1 || count > 12 || at + 2 + count > body.length()) {
                return false;
            }
            StringBuilder learnt = new StringBuilder();
            for (char c : body.substring(at + 2, at + 2 + count).toCharArray()) {
                if (c > 4) {
                    return false;
                }
                learnt.append(LETTERS.charAt(c));
            }
            lamps.add((int) body.charAt(at));
            steps.add(learnt.toString());
            at += 2 + count;
        }
        if (at != body.length()) {
            return false;
        }
        for (int k = 0; k < g.persons.size(); k++) {
            g.persons.get(k).lamp = lamps.get(k);
            g.persons.get(k).steps = steps.get(k);
        }
        acts.clear();
        return true;
    }
}
