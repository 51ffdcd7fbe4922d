import java.math.BigInteger;
import java.util.ArrayDeque;
import java.util.ArrayList;
import java.util.Comparator;
import java.util.Deque;
import java.util.HashSet;
import java.util.List;
import java.util.Set;
import java.util.regex.Matcher;
import java.util.regex.Pattern;

/**
 * The document once more, written slowly and in another way than the program:
 * with states that are never changed, great numbers and patterns. The program
 * is compared with it.
 */
final class Model {
    static final int INVALID = -1000001;
    static final int NOT_POSSIBLE = -1000002;
    static final int LIMIT = -1000003;
    static final int NOT_FOUND = -1000004;

    private static final Pattern ORDER = Pattern.compile("m(-?\\d\\d?),(\\d\\d?);|o(\\d\\d?),(\\d\\d?);|r;");

    private static final class Refused extends RuntimeException {
        private static final long serialVersionUID = 1;

        final int code;

        Refused(int code) {
            super(null, null, false, false);
            this.code = code;
        }
    }

    private record Member(int place, int parent) {}

    private record Generation(int kind, int drift, int spread, int scheme, List<Member> members) {}

    private record Snapshot(List<Generation> generations, List<BigInteger> weights, int noise,
            List<Integer> settings, int observations, int resamplings) {

        Generation last() {
            return generations.get(generations.size() - 1);
        }

        int many() {
            return weights.size();
        }
    }

    private record Outcome(Snapshot snapshot, int answer) {}

    private interface Change {
        Outcome from(Snapshot snapshot);
    }

    private Snapshot now;
    private final Deque<Snapshot> history = new ArrayDeque<>();
    private String text = "";

    Model() {
        now = fresh(4, 0, 10, List.of(3, 0, 50));
    }

    private static Snapshot fresh(int many, int first, int step, List<Integer> settings) {
        List<Member> members = new ArrayList<>();
        List<BigInteger> weights = new ArrayList<>();
        int place = first;
        for (int k = 0; k < many; k++) {
            members.add(new Member(place, -1));
            weights.add(BigInteger.ONE);
            place = place + step > 99 ? 99 : place + step;
        }
        return new Snapshot(List.of(new Generation(0, 0, 0, 0, members)), weights, 1, settings, 0, 0);
    }

    private static void need(boolean held, int code) {
        if (!held) {
            throw new Refused(code);
        }
    }

    private static boolean in(long value, long low, long high) {
        return low <= value && value <= high;
    }

    private int change(Change change) {
        try {
            Outcome outcome = change.from(now);
            history.addLast(now);
            if (history.size() == 5) {
                history.removeFirst();
            }
            now = outcome.snapshot;
            return outcome.answer;
        } catch (Refused refused) {
            return refused.code;
        }
    }

    private static List<BigInteger> lowest(List<BigInteger> weights) {
        BigInteger divisor = BigInteger.ZERO;
        for (BigInteger weight : weights) {
            divisor = divisor.gcd(weight);
        }
        need(divisor.signum() > 0, NOT_POSSIBLE);
        List<BigInteger> reduced = new ArrayList<>();
        for (BigInteger weight : weights) {
            reduced.add(weight.divide(divisor));
        }
        return reduced;
    }

    private static BigInteger sum(List<BigInteger> weights) {
        return weights.stream().reduce(BigInteger.ZERO, BigInteger::add);
    }

    private static int effective(List<BigInteger> weights) {
        BigInteger sum = sum(weights);
        BigInteger squares = sum(weights.stream().map(w -> w.multiply(w)).toList());
        return sum.multiply(sum).divide(squares).intValueExact();
    }

    private static int next(int noise) {
        return (int) ((noise * 75L + 74L) % 65537L);
    }

    int begin(int many, int first, int step) {
        return change(s -> {
            need(in(many, 1, 12) && in(first, 0, 99) && in(step, 0, 99), INVALID);
            return new Outcome(fresh(many, first, step, s.settings), s.generations.size());
        });
    }

    int weigh(int particle, int weight) {
        return change(s -> {
            need(in(particle, 0, s.many() - 1) && in(weight, 0, 1000000), INVALID);
            List<BigInteger> weights = new ArrayList<>(s.weights);
            weights.set(particle, BigInteger.valueOf(weight));
            weights = lowest(weights);
            return new Outcome(new Snapshot(s.generations, weights, s.noise, s.settings, s.observations,
                    s.resamplings), weights.get(particle).intValueExact());
        });
    }

    private static Outcome moved(Snapshot s, int drift, int spread) {
        need(in(drift, -99, 99) && in(spread, 0, 99), INVALID);
        need(s.generations.size() < 20, LIMIT);
        int noise = s.noise;
        List<Member> members = new ArrayList<>();
        for (int k = 0; k < s.many(); k++) {
            noise = next(noise);
            int place = s.last().members.get(k).place + drift + noise % (2 * spread + 1) - spread;
            members.add(new Member(place < 0 ? 0 : place > 99 ? 99 : place, k));
        }
        List<Generation> generations = new ArrayList<>(s.generations);
        generations.add(new Generation(1, drift, spread, 0, members));
        return new Outcome(new Snapshot(generations, s.weights, noise, s.settings, s.observations,
                s.resamplings), s.generations.size());
    }

    int move(int drift, int spread) {
        return change(s -> moved(s, drift, spread));
    }

    private static Outcome observed(Snapshot s, int place, int width) {
        need(in(place, 0, 99) && in(width, 1, 99), INVALID);
        List<BigInteger> weights = new ArrayList<>();
        for (int k = 0; k < s.many(); k++) {
            int distance = Math.abs(s.last().members.get(k).place - place);
            weights.add(s.weights.get(k).multiply(BigInteger.valueOf(distance > width ? 0 : width - distance)));
        }
        weights = lowest(weights);
        for (BigInteger weight : weights) {
            need(weight.compareTo(BigInteger.valueOf(1000000)) <= 0, LIMIT);
        }
        Snapshot seen = new Snapshot(s.generations, weights, s.noise, s.settings, s.observations + 1,
                s.resamplings);
        int effective = effective(weights);
        if (effective < s.settings.get(0)) {
            seen = resampled(seen).snapshot;
        }
        return new Outcome(seen, effective);
    }

    int observe(int place, int width) {
        return change(s -> observed(s, place, width));
    }

    private static List<Integer> byPoints(Snapshot s, List<BigInteger> points) {
        List<Integer> chosen = new ArrayList<>();
        BigInteger many = BigInteger.valueOf(s.many());
        for (BigInteger point : points) {
            int found = 0;
            while (many.multiply(sum(s.weights.subList(0, found + 1))).compareTo(point) <= 0) {
                found++;
            }
            chosen.add(found);
        }
        return chosen;
    }

    private static List<Integer> chosen(Snapshot s, int scheme) {
        BigInteger sum = sum(s.weights);
        if (scheme == 2) {
            return byShares(s, sum);
        }
        List<BigInteger> points = new ArrayList<>();
        int noise = s.noise;
        for (int k = 0; k < s.many(); k++) {
            noise = next(noise);
            BigInteger added = scheme == 1 ? BigInteger.valueOf(noise).mod(sum)
                    : sum.multiply(BigInteger.valueOf(s.settings.get(2))).divide(BigInteger.valueOf(100));
            points.add(sum.multiply(BigInteger.valueOf(k)).add(added));
        }
        return byPoints(s, points);
    }

    private static List<Integer> byShares(Snapshot s, BigInteger sum) {
        BigInteger many = BigInteger.valueOf(s.many());
        List<Integer> chosen = new ArrayList<>();
        List<Integer> order = new ArrayList<>();
        List<BigInteger> rests = new ArrayList<>();
        for (int k = 0; k < s.many(); k++) {
            BigInteger[] parts = many.multiply(s.weights.get(k)).divideAndRemainder(sum);
            for (int time = 0; time < parts[0].intValueExact(); time++) {
                chosen.add(k);
            }
            order.add(k);
            rests.add(parts[1]);
        }
        order.sort(Comparator.comparing((Integer k) -> rests.get(k)).reversed().thenComparing(k -> k));
        chosen.addAll(order.subList(0, s.many() - chosen.size()));
        chosen.sort(null);
        return chosen;
    }

    private static Outcome resampled(Snapshot s) {
        need(s.generations.size() < 20, LIMIT);
        int scheme = s.settings.get(1);
        List<Integer> chosen = chosen(s, scheme);
        List<Member> members = new ArrayList<>();
        List<BigInteger> weights = new ArrayList<>();
        int noise = s.noise;
        for (int k = 0; k < s.many(); k++) {
            members.add(new Member(s.last().members.get(chosen.get(k)).place, chosen.get(k)));
            weights.add(BigInteger.ONE);
            if (scheme == 1) {
                noise = next(noise);
            }
        }
        List<Generation> generations = new ArrayList<>(s.generations);
        generations.add(new Generation(2, 0, 0, scheme, members));
        return new Outcome(new Snapshot(generations, weights, noise, s.settings, s.observations,
                s.resamplings + 1), new HashSet<>(chosen).size());
    }

    int resample() {
        return change(Model::resampled);
    }

    int set(int what, int value) {
        return change(s -> {
            need(in(what, 0, 2), INVALID);
            need(in(value, 0, List.of(12, 2, 99).get(what)), INVALID);
            List<Integer> settings = new ArrayList<>(s.settings);
            int old = settings.set(what, value);
            return new Outcome(new Snapshot(s.generations, s.weights, s.noise, settings, s.observations,
                    s.resamplings), old);
        });
    }

    private boolean noParticle(int particle) {
        return !in(particle, 0, now.many() - 1);
    }

    private boolean noGeneration(int generation) {
        return !in(generation, 0, now.generations.size() - 1);
    }

    private static int part(BigInteger upper, BigInteger lower, int part) {
        BigInteger divisor = upper.gcd(lower);
        return (part == 0 ? upper : lower).divide(divisor).intValueExact();
    }

    private static int unlikePlaces(Generation generation) {
        Set<Integer> places = new HashSet<>();
        for (Member member : generation.members) {
            places.add(member.place);
        }
        return places.size();
    }

    int particleOf(int particle, int what) {
        if (noParticle(particle) || !in(what, 0, 6)) {
            return INVALID;
        }
        Member member = now.last().members.get(particle);
        BigInteger weight = now.weights.get(particle);
        int same = 0;
        int ahead = 0;
        for (int k = 0; k < now.many(); k++) {
            same += now.last().members.get(k).place == member.place ? 1 : 0;
            int compared = now.weights.get(k).compareTo(weight);
            ahead += compared > 0 || compared == 0 && k < particle ? 1 : 0;
        }
        BigInteger sum = sum(now.weights);
        return new int[] {member.place, weight.intValueExact(), member.parent < 0 ? NOT_FOUND : member.parent,
            same, part(weight, sum, 0), part(weight, sum, 1), ahead}[what];
    }

    private List<Integer> line(int particle) {
        List<Integer> line = new ArrayList<>();
        int found = particle;
        for (int g = now.generations.size() - 1; g >= 0; g--) {
            line.add(0, found);
            found = now.generations.get(g).members.get(found).parent;
        }
        return line;
    }

    int generationOf(int generation, int what) {
        if (noGeneration(generation) || !in(what, 0, 5)) {
            return INVALID;
        }
        Generation g = now.generations.get(generation);
        Set<Integer> ancestors = new HashSet<>();
        for (int k = 0; k < now.many(); k++) {
            ancestors.add(line(k).get(generation));
        }
        return new int[] {g.kind, g.kind == 1 ? g.drift + 100 : NOT_FOUND, g.kind == 1 ? g.spread : NOT_FOUND,
            g.kind == 2 ? g.scheme : NOT_FOUND, ancestors.size(), unlikePlaces(g)}[what];
    }

    int ancestor(int particle, int generation, int what) {
        if (noParticle(particle) || noGeneration(generation) || !in(what, 0, 1)) {
            return INVALID;
        }
        int found = line(particle).get(generation);
        return what == 0 ? found : now.generations.get(generation).members.get(found).place;
    }

    int common(int one, int other) {
        if (noParticle(one) || noParticle(other)) {
            return INVALID;
        }
        int found = NOT_FOUND;
        for (int g = 0; g < now.generations.size(); g++) {
            found = line(one).get(g).equals(line(other).get(g)) ? g : found;
        }
        return found;
    }

    int root() {
        int found = NOT_FOUND;
        for (int g = 0; g < now.generations.size(); g++) {
            found = generationOf(g, 4) == 1 ? g : found;
        }
        return found;
    }

    int mean(int generation, int part) {
        if (noGeneration(generation) || !in(part, 0, 1)) {
            return INVALID;
        }
        BigInteger upper = BigInteger.ZERO;
        for (int k = 0; k < now.many(); k++) {
            upper = upper.add(now.weights.get(k).multiply(BigInteger.valueOf(ancestor(k, generation, 1))));
        }
        return part(upper, sum(now.weights), part);
    }

    int share(int generation, int low, int high, int part) {
        if (noGeneration(generation) || !in(low, 0, 99) || !in(high, 0, 99) || !in(part, 0, 1)) {
            return INVALID;
        }
        BigInteger upper = BigInteger.ZERO;
        for (int k = 0; k < now.many(); k++) {
            if (in(ancestor(k, generation, 1), low, high)) {
                upper = upper.add(now.weights.get(k));
            }
        }
        return part(upper, sum(now.weights), part);
    }

    int would(int scheme, int particle) {
        if (!in(scheme, 0, 2) || noParticle(particle)) {
            return INVALID;
        }
        return chosen(now, scheme).get(particle);
    }

    int count(int what) {
        if (in(what, 20, 22)) {
            return now.settings.get(what - 20);
        }
        if (!in(what, 0, 10)) {
            return INVALID;
        }
        int zeros = 0;
        for (BigInteger weight : now.weights) {
            zeros += weight.signum() == 0 ? 1 : 0;
        }
        return new int[] {now.many(), now.generations.size(), sum(now.weights).intValueExact(),
            effective(now.weights), now.noise, zeros, unlikePlaces(now.last()), now.observations,
            now.resamplings, history.size(), text.length()}[what];
    }

    int undo() {
        if (history.isEmpty()) {
            return NOT_POSSIBLE;
        }
        now = history.removeLast();
        return history.size();
    }

    int type(int character) {
        if (!in(character, 32, 126)) {
            return INVALID;
        }
        if (text.length() == 60) {
            return LIMIT;
        }
        text += (char) character;
        return text.length();
    }

    int clearText() {
        int length = text.length();
        text = "";
        return length;
    }

    /** The length of the longest beginning of a text that is one of an order, too. */
    private static int breakOff(String rest) {
        int length = 0;
        while (length < rest.length()) {
            Matcher matcher = ORDER.matcher(rest.substring(0, length + 1));
            if (!matcher.matches() && !matcher.hitEnd()) {
                return length;
            }
            length++;
        }
        return length;
    }

    private static Outcome done(Snapshot s, Matcher matcher) {
        if (matcher.group(1) != null) {
            return moved(s, Integer.parseInt(matcher.group(1)), Integer.parseInt(matcher.group(2)));
        }
        if (matcher.group(3) != null) {
            return observed(s, Integer.parseInt(matcher.group(3)), Integer.parseInt(matcher.group(4)));
        }
        return resampled(s);
    }

    private record Played(Snapshot snapshot, int orders, int[] fault) {}

    private Played played() {
        Snapshot s = now;
        int position = 0;
        int orders = 0;
        while (position < text.length()) {
            Matcher matcher = ORDER.matcher(text.substring(position));
            if (!matcher.lookingAt()) {
                return new Played(s, orders, new int[] {position, 1, breakOff(text.substring(position))});
            }
            try {
                s = done(s, matcher).snapshot;
            } catch (Refused refused) {
                return new Played(s, orders, new int[] {position, 2, refused.code});
            }
            position += matcher.end();
            orders++;
        }
        return new Played(s, orders, null);
    }

    int fault(int what) {
        if (!in(what, 0, 2)) {
            return INVALID;
        }
        Played played = played();
        return played.fault == null ? NOT_FOUND : played.fault[what];
    }

    int play() {
        return change(s -> {
            Played played = played();
            need(played.fault == null, NOT_POSSIBLE);
            return new Outcome(played.snapshot, played.orders);
        });
    }
}
