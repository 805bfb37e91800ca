import java.math.BigInteger;
import java.util.ArrayList;
import java.util.HashMap;
import java.util.List;
import java.util.Map;
import java.util.regex.Matcher;
import java.util.regex.Pattern;

/**
 * Long runs of calls, each answer against a plain model that writes every family out as a text of 0 and 1.
 * The runs come from a fixed row of numbers, so they are always the same.
 */
public final class EveryFamilyTest {
    private static final int RUNS = 160;
    private static final int CALLS = 512;
    private static final int TEXTS = 20000;
    private static final long FOUR = 4000000000000000000L;
    private static final String KINDS = "tcaerb";

    private static long draws = 20261118L;
    private static int wrong = 0;

    private static int draw(int below) {
        draws = draws * 6364136223846793005L + 1442695040888963407L;
        return (int) ((draws >>> 33) % below);
    }

    /** A family there can be, and of 12 to the power of its children how many. */
    private static final class Family {
        final String sorts;
        final BigInteger weight;

        Family(String sorts, BigInteger weight) {
            this.sorts = sorts;
            this.weight = weight;
        }

        int ones() {
            return EveryFamilyTest.ones(sorts);
        }
    }

    private static final class Fraction implements Comparable<Fraction> {
        final BigInteger above;
        final BigInteger below;

        Fraction(BigInteger above, BigInteger below) {
            BigInteger by = above.gcd(below);
            boolean none = above.signum() == 0 || below.signum() == 0;
            this.above = none ? BigInteger.ZERO : above.divide(by);
            this.below = none ? BigInteger.ONE : below.divide(by);
        }

        static Fraction of(long above, long below) {
            return new Fraction(BigInteger.valueOf(above), BigInteger.valueOf(below));
        }

        Fraction plus(Fraction other) {
            return new Fraction(above.multiply(other.below).add(other.above.multiply(below)),
                below.multiply(other.below));
        }

        Fraction by(Fraction other) {
            return new Fraction(above.multiply(other.below), below.multiply(other.above));
        }

        long part(int part) {
            return (part == 0 ? above : below).longValueExact();
        }

        @Override
        public int compareTo(Fraction other) {
            return above.multiply(other.below).compareTo(other.above.multiply(below));
        }
    }

    private static int ones(String sorts) {
        return (int) sorts.chars().filter(c -> c == '1').count();
    }

    private static int latest(String sorts) {
        return sorts.length() - 1 - sorts.lastIndexOf('0');
    }

    private interface Measure {
        long of(Family family);
    }

    /** What the document says of an object, put as plainly as can be. */
    private static final class Model {
        int kind = 0;
        int figure = 1;
        int[] numbers = {5, 6, 5};
        List<String> seen = new ArrayList<>();
        String row = "";
        String letters = "";
        int[] refusals = new int[7];
        Model image = null;
        Map<String, List<Family>> lands = new HashMap<>();

        long no(int number) {
            refusals[-number]++;
            return number;
        }

        long longNo(int number) {
            return FOUR - no(number);
        }

        /** The first refusal that fits, told by pairs: whether it fits, its number; 0 for none. */
        static int first(Object... tests) {
            for (int i = 0; i < tests.length; i += 2) {
                if ((Boolean) tests[i]) {
                    return (Integer) tests[i + 1];
                }
            }
            return 0;
        }

        static boolean bit(int part) {
            return part == 0 || part == 1;
        }

        boolean stops(int ofKind, int ofFigure, int ones, int zeros, int run) {
            switch (KINDS.charAt(ofKind)) {
                case 't': return run >= 1;
                case 'c': return ones >= ofFigure;
                case 'a': return ones == zeros + ofFigure;
                case 'e': return ones == zeros;
                case 'r': return run >= ofFigure;
                default: return Math.min(ones, zeros) >= 1;
            }
        }

        boolean atEnd(int ofKind, int ofFigure, int most, String sorts) {
            int ones = ones(sorts);
            return sorts.length() >= most
                || stops(ofKind, ofFigure, ones, sorts.length() - ones, latest(sorts));
        }

        int twelfths(String sorts) {
            int lean = numbers[2] - 5;
            int twelfths = sorts.isEmpty() ? numbers[1] : sorts.endsWith("1") ? numbers[1] + lean : numbers[1] - lean;
            return twelfths < 0 ? 0 : twelfths > 12 ? 12 : twelfths;
        }

        void grow(List<Family> ends, int ofKind, int ofFigure, int most, String sorts, BigInteger weight) {
            if (weight.signum() == 0) {
                return;
            }
            if (!sorts.isEmpty() && atEnd(ofKind, ofFigure, most, sorts)) {
                ends.add(new Family(sorts, weight.multiply(BigInteger.valueOf(12).pow(10 - sorts.length()))));
                return;
            }
            int p = twelfths(sorts);
            grow(ends, ofKind, ofFigure, most, sorts + "1", weight.multiply(BigInteger.valueOf(p)));
            grow(ends, ofKind, ofFigure, most, sorts + "0", weight.multiply(BigInteger.valueOf(12 - p)));
        }

        List<Family> families(int ofKind, int ofFigure, int most) {
            String name = ofKind + " " + ofFigure + " " + most + " " + numbers[1] + " " + numbers[2];
            List<Family> ends = lands.get(name);
            if (ends == null) {
                ends = new ArrayList<>();
                grow(ends, ofKind, ofFigure, most, "", BigInteger.ONE);
                lands.put(name, ends);
            }
            return ends;
        }

        /** The mean of a measure over all families of a kind. */
        Fraction meanOf(int ofKind, Measure measure) {
            BigInteger sum = BigInteger.ZERO;
            for (Family f : families(ofKind, figure, numbers[0])) {
                sum = sum.add(f.weight.multiply(BigInteger.valueOf(measure.of(f))));
            }
            return new Fraction(sum, BigInteger.valueOf(12).pow(10));
        }

        Fraction mean(int what) {
            return meanOf(kind, f -> what == 0 ? f.sorts.length() : what == 1 ? f.ones() : f.sorts.length() - f.ones());
        }

        Fraction share() {
            Fraction sum = Fraction.of(0, 1);
            for (int n = 1; n <= 10; n++) {
                int length = n;
                Fraction ones = meanOf(kind, f -> f.sorts.length() == length ? f.ones() : 0);
                sum = sum.plus(ones.by(Fraction.of(n, 1)));
            }
            return sum;
        }

        Fraction all(int ofKind) {
            return meanOf(ofKind, f -> f.ones()).by(meanOf(ofKind, f -> f.sorts.length()));
        }

        Fraction met(int what) {
            Measure children = f -> {
                int met = 0;
                for (int i = 0; i < f.sorts.length(); i++) {
                    String siblings = f.sorts.substring(0, i) + f.sorts.substring(i + 1);
                    boolean more = 2 * f.ones() > f.sorts.length();
                    boolean sisters = f.sorts.charAt(i) == '1' && siblings.contains("1");
                    met += what == 0 && more || what == 1 && sisters ? 1 : 0;
                }
                return met;
            };
            return meanOf(kind, children).by(mean(0));
        }

        long sayers(Family f, int sort, int a, int b, int to) {
            int sayers = 0;
            for (int i = 0; i < Math.min(to, f.sorts.length()); i++) {
                String siblings = f.sorts.substring(0, i) + f.sorts.substring(i + 1);
                boolean says = ones(siblings) == a && siblings.length() - ones(siblings) == b;
                sayers += says && f.sorts.charAt(i) - '0' == sort ? 1 : 0;
            }
            return sayers;
        }

        Fraction says(int sort, int a, int b, int what) {
            Fraction sayers = meanOf(kind, f -> sayers(f, sort, a, b, 10));
            return what == 0 ? sayers.by(mean(0)) : meanOf(kind, f -> sayers(f, sort, a, b, 1)).by(sayers);
        }

        Fraction trial(int n, int d) {
            // Count that can't stop ahead of ten children: no law.
            BigInteger good = BigInteger.ZERO;
            for (Family f : families(1, 99, n)) {
                for (int i = 1; i <= n; i++) {
                    if (2 * ones(f.sorts.substring(0, i)) - i == d) {
                        good = good.add(f.weight);
                        break;
                    }
                }
            }
            return new Fraction(good, BigInteger.valueOf(12).pow(10));
        }

        /** The first child behind which a kind stops; the length, if none. */
        int stop(int ofKind, String sorts) {
            int place = 0;
            while (place < sorts.length() && !atEnd(ofKind, figure, numbers[0], sorts.substring(0, place + 1))) {
                place++;
            }
            return place;
        }

        Fraction gone() {
            if (stop(kind, row) < row.length()) {
                return Fraction.of(0, 1);
            }
            int last = 0;
            last += atEnd(kind, figure, numbers[0], row + "1") ? twelfths(row) : 0;
            last += atEnd(kind, figure, numbers[0], row + "0") ? 12 - twelfths(row) : 0;
            return Fraction.of(last, 12);
        }

        long shift(int least) {
            int best = 0;
            for (int k = 1; k < 6; k++) {
                int order = all(k).compareTo(all(best));
                best = least == 0 && order > 0 || least == 1 && order < 0 ? k : best;
            }
            return best;
        }

        long fits(int could) {
            int bits = 0;
            for (int k = 0; k < 6; k++) {
                int ofKind = k;
                boolean fit = seen.stream().allMatch(f ->
                    stop(ofKind, f) == f.length() - 1 || could == 1 && stop(ofKind, f) == f.length());
                bits += fit ? 1 << k : 0;
            }
            return bits;
        }

        long judge() {
            int place = stop(kind, row);
            long answer = place == row.length() ? -9 : place == row.length() - 1 ? 20 : place;
            row = "";
            return answer;
        }

        long lots(int n, int z, int sort) {
            long state = z;
            int children = 0;
            for (int i = 0; i < n; i++) {
                String sorts = "";
                do {
                    state = (int) (state * 1664525L + 1013904223L);
                    long positive = state < 0 ? state + 2147483648L : state;
                    sorts += positive / 256 % 12 < twelfths(sorts) ? "1" : "0";
                } while (!atEnd(kind, figure, numbers[0], sorts));
                children += sort == 1 ? ones(sorts) : sorts.length() - ones(sorts);
            }
            return children;
        }

        void copy(Model other) {
            kind = other.kind;
            figure = other.figure;
            numbers = other.numbers.clone();
            seen = new ArrayList<>(other.seen);
        }

        private static final Pattern LAND =
            Pattern.compile("(?:l[tcaerb][0-9];|[mc][0-9]{1,2};|n[+-][0-9];|f[01]{1,10};)+");

        static int faultOfLetters(String text) {
            for (int i = 1; i <= text.length(); i++) {
                Matcher m = LAND.matcher(text.substring(0, i));
                if (!m.matches() && !m.hitEnd()) {
                    return i - 1;
                }
            }
            return LAND.matcher(text).matches() ? -1 : text.length();
        }

        long land() {
            String text = letters;
            letters = "";
            int fault = faultOfLetters(text);
            if (fault >= 0) {
                return -1000 - fault;
            }
            Model draft = new Model();
            draft.copy(this);
            int place = 0;
            String[] statements = text.split(";");
            for (String s : statements) {
                if (!draft.statement(s)) {
                    return -2000 - place;
                }
                place += s.length() + 1;
            }
            copy(draft);
            return statements.length;
        }

        boolean statement(String s) {
            if (s.startsWith("f")) {
                seen.add(s.substring(1));
                return seen.size() <= 8;
            }
            if (s.startsWith("l")) {
                kind = KINDS.indexOf(s.charAt(1));
                figure = Integer.parseInt(s.substring(2));
                return figure >= 1 && figure <= 9;
            }
            int what = "mcn".indexOf(s.charAt(0));
            int v = Integer.parseInt(s.substring(1));
            numbers[what] = what == 2 ? v + 5 : v;
            return what == 2 ? Math.abs(v) <= 5 : v >= 1 && v <= (what == 0 ? 10 : 11);
        }
    }

    /** A call by its name and arguments, of the program and of the model. */
    private static long real(TillOneOfSort x, String name, int[] v) {
        switch (name) {
            case "letter": return x.letter(v[0]);
            case "land": return x.land();
            case "law": return x.law(v[0], v[1]);
            case "set": return x.set(v[0], v[1]);
            case "stops": return x.stops(v[0], v[1], v[2]);
            case "mean": return x.mean(v[0], v[1]);
            case "share": return x.share(v[0]);
            case "all": return x.all(v[0]);
            case "more": return x.more(v[0], v[1]);
            case "size": return x.size(v[0], v[1]);
            case "met": return x.met(v[0], v[1]);
            case "says": return x.says(v[0], v[1], v[2], v[3], v[4]);
            case "trial": return x.trial(v[0], v[1], v[2]);
            case "row": return x.row(v[0]);
            case "gone": return x.gone(v[0]);
            case "shift": return x.shift(v[0]);
            case "fits": return x.fits(v[0]);
            case "judge": return x.judge();
            case "seen": return x.seen(v[0], v[1]);
            case "cheats": return x.cheats();
            case "lots": return x.lots(v[0], v[1], v[2]);
            case "image": return x.image();
            case "on": return x.on();
            default: return x.count(v[0]);
        }
    }

    private static int refusal(Model m, String name, int[] v) {
        switch (name) {
            case "letter": return Model.first(v[0] < 0, -4, v[0] > 255 || m.letters.length() == 64, -6);
            case "law": return Model.first(v[0] < 0 || v[0] > 5, -2, v[1] < 1, -4, v[1] > 9, -6);
            case "set":
                return Model.first(v[0] < 0 || v[0] > 2, -2, v[1] < (v[0] == 2 ? 0 : 1), -4,
                    v[1] > (v[0] == 1 ? 11 : 10), -6);
            case "stops":
                return Model.first(v[0] < 0 || v[1] < 0 || v[2] < 0, -4, v[0] > 10 || v[1] > 10 || v[2] > 10, -6,
                    v[2] > v[0] || v[0] == 0 && v[1] == 0 || v[2] == 0 && v[1] == 0, -3);
            case "mean":
            case "more": return Model.first(v[0] < 0 || v[0] > 2 || !Model.bit(v[1]), -2);
            case "share":
            case "all":
            case "gone":
            case "shift":
            case "fits": return Model.first(!Model.bit(v[0]), -2);
            case "size": return Model.first(v[0] < 1, -4, v[0] > 10, -6, !Model.bit(v[1]), -2);
            case "met": return Model.first(!Model.bit(v[0]) || !Model.bit(v[1]), -2);
            case "says":
                return Model.first(v[1] < 0 || v[2] < 0, -4, v[1] > 9 || v[2] > 9, -6,
                    !Model.bit(v[0]) || !Model.bit(v[3]) || !Model.bit(v[4]), -2);
            case "trial":
                return Model.first(v[0] < 1 || v[1] < 1, -4, v[0] > 10 || v[1] > 9, -6, !Model.bit(v[2]), -2);
            case "row": return Model.first(!Model.bit(v[0]), -2, m.row.length() == 10, -6);
            case "seen": return Model.first(v[0] < 0, -4, !Model.bit(v[1]), -2);
            case "lots": return Model.first(v[0] < 1, -4, v[0] > 40, -6, !Model.bit(v[2]), -2);
            case "on": return Model.first(m.image == null, -3);
            default: return 0;
        }
    }

    private static final String OF_LONGS = " mean share all more size met says trial gone ";

    private static long modelled(Model m, String name, int[] v) {
        int refused = refusal(m, name, v);
        if (refused != 0) {
            return OF_LONGS.contains(" " + name + " ") ? m.longNo(refused) : m.no(refused);
        }
        switch (name) {
            case "mean": return m.mean(v[0]).part(v[1]);
            case "share": return m.share().part(v[0]);
            case "all": return m.all(m.kind).part(v[0]);
            case "more":
                return m.meanOf(m.kind, f -> 1 - Integer.signum(2 * f.ones() - f.sorts.length()) == v[0] ? 1 : 0)
                    .part(v[1]);
            case "size": return m.meanOf(m.kind, f -> f.sorts.length() == v[0] ? 1 : 0).part(v[1]);
            case "met": return m.met(v[0]).part(v[1]);
            case "says": return m.says(v[0], v[1], v[2], v[3]).part(v[4]);
            case "trial": return m.trial(v[0], v[1]).part(v[2]);
            case "gone": return m.gone().part(v[0]);
            default: return modelledInt(m, name, v);
        }
    }

    private static long modelledInt(Model m, String name, int[] v) {
        switch (name) {
            case "letter":
                m.letters += (char) v[0];
                return m.letters.length();
            case "land": return m.land();
            case "law": {
                int was = 10 * m.kind + m.figure;
                m.kind = v[0];
                m.figure = v[1];
                return was;
            }
            case "set": {
                int was = m.numbers[v[0]];
                m.numbers[v[0]] = v[1];
                return was;
            }
            case "stops": return m.stops(m.kind, m.figure, v[0], v[1], v[2]) ? 1 : 0;
            case "row":
                m.row += v[0];
                return m.row.length();
            case "shift": return m.shift(v[0]);
            case "fits": return m.fits(v[0]);
            case "judge": return m.judge();
            case "seen":
                if (v[0] >= m.seen.size()) {
                    return -9;
                }
                String sorts = m.seen.get(v[0]);
                return v[1] == 0 ? sorts.length() : Integer.parseInt(new StringBuilder(sorts).reverse().toString(), 2);
            case "cheats": return m.seen.stream().filter(f -> m.stop(m.kind, f) < f.length() - 1).count();
            case "lots": return m.lots(v[0], v[1], v[2]);
            case "image":
                m.image = new Model();
                m.image.copy(m);
                return m.seen.size();
            case "on":
                m.copy(m.image);
                return m.seen.size();
            default: {
                int[] counts = {m.numbers[0], m.numbers[1], m.numbers[2], m.kind, m.figure, m.seen.size(),
                    m.row.length(), m.letters.length()};
                if (v[0] >= 0 && v[0] < 8) {
                    return counts[v[0]];
                }
                return v[0] >= 11 && v[0] <= 16 ? m.refusals[v[0] - 10] : -9;
            }
        }
    }

    private static void ask(int run, TillOneOfSort x, Model m, String name, int... v) {
        long want = modelled(m, name, v);
        long got = real(x, name, v);
        if (got != want) {
            wrong++;
            System.out.println("run " + run + ": " + name + java.util.Arrays.toString(v) + " answered " + got
                + ", due is " + want);
        }
    }

    /** Mostly a number of the range, now and then one beside it or far from it. */
    private static int near(int least, int greatest) {
        int[] others = {least - 1, greatest + 1, least, greatest, Integer.MIN_VALUE, Integer.MAX_VALUE};
        return draw(12) == 0 ? others[draw(6)] : least + draw(greatest - least + 1);
    }

    private static String statement() {
        StringBuilder s = new StringBuilder();
        switch (draw(6)) {
            case 0: return s.append('l').append(KINDS.charAt(draw(6))).append(draw(10)).append(';').toString();
            case 1: return s.append('m').append(draw(12)).append(';').toString();
            case 2: return s.append('c').append('0').append(1 + draw(9)).append(';').toString();
            case 3: return s.append('n').append(draw(2) == 0 ? '+' : '-').append(draw(6)).append(';').toString();
            default:
                s.append('f');
                int children = 1 + draw(draw(3) == 0 ? 10 : 4);
                for (int i = 0; i < children; i++) {
                    s.append(draw(2));
                }
                return s.append(';').toString();
        }
    }

    private static String text() {
        StringBuilder s = new StringBuilder();
        int statements = 1 + draw(4);
        for (int i = 0; i < statements; i++) {
            s.append(statement());
        }
        if (draw(4) == 0) {
            String odd = "lmcnf;+-01239tcaerbx";
            int place = draw(s.length());
            int how = draw(3);
            if (how == 0) {
                s.deleteCharAt(place);
            } else if (how == 1) {
                s.setCharAt(place, odd.charAt(draw(odd.length())));
            } else {
                s.insert(place, odd.charAt(draw(odd.length())));
            }
        }
        return s.toString();
    }

    /** One thing a user may do: how many calls it took. */
    private static int step(int run, TillOneOfSort x, Model m) {
        switch (draw(30)) {
            case 0: {
                String text = text();
                for (int i = 0; i < text.length(); i++) {
                    ask(run, x, m, "letter", text.charAt(i));
                }
                ask(run, x, m, "land");
                return text.length() + 1;
            }
            case 1: ask(run, x, m, "law", near(0, 5), near(1, 9)); return 1;
            case 2: {
                int what = near(0, 2);
                ask(run, x, m, "set", what, what == 1 ? near(1, 11) : what == 0 ? near(1, 10) : near(0, 10));
                return 1;
            }
            case 3: ask(run, x, m, "letter", near(0, 255)); return 1;
            case 4:
            case 5: ask(run, x, m, "stops", near(0, 10), near(0, 10), near(0, 4)); return 1;
            case 6: ask(run, x, m, "mean", near(0, 2), near(0, 1)); return 1;
            case 7: ask(run, x, m, "share", near(0, 1)); return 1;
            case 8: ask(run, x, m, "all", near(0, 1)); return 1;
            case 9: ask(run, x, m, "more", near(0, 2), near(0, 1)); return 1;
            case 10: ask(run, x, m, "size", near(1, 10), near(0, 1)); return 1;
            case 11:
            case 12: ask(run, x, m, "met", near(0, 1), near(0, 1)); return 1;
            case 13:
            case 14: ask(run, x, m, "says", near(0, 1), near(0, 4), near(0, 4), near(0, 1), near(0, 1)); return 1;
            case 15:
            case 16: ask(run, x, m, "trial", near(1, 10), near(1, draw(2) == 0 ? 3 : 9), near(0, 1)); return 1;
            case 17:
            case 18:
            case 19: ask(run, x, m, "row", near(0, 1)); return 1;
            case 20: ask(run, x, m, "gone", near(0, 1)); return 1;
            case 21: ask(run, x, m, "shift", near(0, 1)); return 1;
            case 22: ask(run, x, m, "fits", near(0, 1)); return 1;
            case 23: ask(run, x, m, draw(2) == 0 ? "judge" : "gone", near(0, 1)); return 1;
            case 24: ask(run, x, m, "seen", near(0, 7), near(0, 1)); return 1;
            case 25: ask(run, x, m, "cheats"); return 1;
            case 26: ask(run, x, m, "lots", near(1, 40), (int) (draws >>> 16), near(0, 1)); return 1;
            case 27: ask(run, x, m, draw(3) == 0 ? "image" : "cheats"); return 1;
            case 28: ask(run, x, m, draw(3) == 0 ? "on" : "cheats"); return 1;
            default: ask(run, x, m, "count", near(0, 17)); return 1;
        }
    }

    /** Many texts, told to new objects: what they answer and what they have changed. */
    private static void tellTexts() {
        for (int run = 1; run <= TEXTS && wrong < 20; run++) {
            TillOneOfSort x = new TillOneOfSort();
            Model m = new Model();
            for (int times = 0; times < 2; times++) {
                String text = text();
                for (int i = 0; i < text.length(); i++) {
                    ask(-run, x, m, "letter", text.charAt(i));
                }
                ask(-run, x, m, "land");
            }
            for (int what = 0; what <= 17; what++) {
                ask(-run, x, m, "count", what);
            }
            for (int i = 0; i < 8; i++) {
                ask(-run, x, m, "seen", i, 0);
                ask(-run, x, m, "seen", i, 1);
            }
        }
    }

    public static void main(String[] args) {
        tellTexts();
        for (int run = 1; run <= RUNS && wrong < 20; run++) {
            TillOneOfSort x = new TillOneOfSort();
            Model m = new Model();
            int calls = 0;
            while (calls < CALLS) {
                calls += step(run, x, m);
            }
            for (int what = 0; what <= 17; what++) {
                ask(run, x, m, "count", what);
            }
        }
        System.out.println(wrong == 0 ? "all runs answer as the model does" : wrong + " answers are not the model's");
        if (wrong != 0) {
            System.exit(1);
        }
    }
}
