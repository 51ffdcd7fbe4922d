import java.util.ArrayList;
import java.util.List;

/** What tests that call the program have in common. */
class Calls {
    static final int INVALID = -1000001;
    static final int NOT_POSSIBLE = -1000002;
    static final int LIMIT = -1000003;
    static final int NOT_FOUND = -1000004;
    static final int MIN = Integer.MIN_VALUE;
    static final int MAX = Integer.MAX_VALUE;

    static Checks checks = new Checks("Calls");

    static void due(String call, long got, long want) {
        checks.due(call, got, want);
    }

    static void dueAll(String what, int[] got, int... want) {
        due(what + ": how many", got.length, want.length);
        for (int k = 0; k < got.length && k < want.length; k++) {
            due(what + "[" + k + "]", got[k], want[k]);
        }
    }

    static int[] ofParticles(ParticleLines x, int what) {
        int[] found = new int[x.count(0)];
        for (int k = 0; k < found.length; k++) {
            found[k] = x.particleOf(k, what);
        }
        return found;
    }

    static int[] places(ParticleLines x) {
        return ofParticles(x, 0);
    }

    static int[] weights(ParticleLines x) {
        return ofParticles(x, 1);
    }

    static int[] parents(ParticleLines x) {
        return ofParticles(x, 2);
    }

    static int[] choices(ParticleLines x, int scheme) {
        int[] found = new int[x.count(0)];
        for (int k = 0; k < found.length; k++) {
            found[k] = x.would(scheme, k);
        }
        return found;
    }

    static ParticleLines withWeights(int step, int... weights) {
        ParticleLines x = new ParticleLines();
        x.begin(weights.length, 0, step);
        for (int k = 0; k < weights.length; k++) {
            x.weigh(k, weights[k]);
        }
        return x;
    }

    static void write(ParticleLines x, String text) {
        x.clearText();
        for (int k = 0; k < text.length(); k++) {
            due("type " + text.charAt(k), x.type(text.charAt(k)), k + 1);
        }
    }

    /** Makes generations until there are 20, by moves that move nothing. */
    static void fill(ParticleLines x) {
        for (int move = 0; move < 20 && x.count(1) < 20; move++) {
            x.move(0, 0);
        }
    }

    /**
     * What an object answers about its state: by less than 400 calls if its
     * particles times its generations are not more than 60.
     */
    static List<Integer> everything(ParticleLines x) {
        List<Integer> told = new ArrayList<>();
        int many = x.count(0);
        int generations = x.count(1);
        for (int what = 0; what <= 10; what++) {
            told.add(x.count(what));
        }
        for (int what = 0; what <= 2; what++) {
            told.add(x.count(20 + what));
            told.add(x.fault(what));
        }
        for (int k = 0; k < many; k++) {
            for (int what = 0; what <= 6; what++) {
                told.add(x.particleOf(k, what));
            }
            for (int scheme = 0; scheme <= 2; scheme++) {
                told.add(x.would(scheme, k));
            }
            told.add(x.common(0, k));
        }
        told.add(x.root());
        for (int g = 0; g < generations; g++) {
            for (int what = 0; what <= 4; what++) {
                told.add(x.generationOf(g, what));
            }
            told.add(x.mean(g, 0));
            for (int k = 0; k < many; k++) {
                told.add(x.ancestor(k, g, 0));
                told.add(x.ancestor(k, g, 1));
            }
        }
        return told;
    }

    static void dueSame(String what, ParticleLines x, ParticleLines y) {
        List<Integer> told = everything(x);
        List<Integer> want = everything(y);
        due(what + ": how many answers", told.size(), want.size());
        for (int k = 0; k < told.size() && k < want.size(); k++) {
            due(what + ": answer " + k, told.get(k), want.get(k));
        }
    }
}
