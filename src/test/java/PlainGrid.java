import java.util.ArrayList;
import java.util.List;
import java.util.Map;
import java.util.TreeMap;

/** The document's promises once more, as plainly as they can be said, to compare the program with. */
final class PlainGrid {
    /** A record that is never changed: a change puts another in its place. */
    record Rec(int share, int number, int seal, List<Integer> fingerprints) {
        int[] prints() {
            return fingerprints.stream().mapToInt(Integer::intValue).toArray();
        }
    }

    record Note(int root, int seal) {
    }

    static final class Stored {
        final int verifyKey;
        final List<Note> notes = new ArrayList<>();
        final Map<Integer, Rec> records = new TreeMap<>();
        final Map<Integer, Rec> pictures = new TreeMap<>();

        Stored(int verifyKey) {
            this.verifyKey = verifyKey;
        }

        boolean isSound(int s) {
            Rec r = records.get(s);
            if (r == null || r.number < 1 || r.number > notes.size()) {
                return false;
            }
            Note note = notes.get(r.number - 1);
            return Terms.mix(r.share, s + 100) == r.fingerprints.get(s)
                    && Terms.root(r.prints(), r.number) == note.root && r.seal == note.seal;
        }
    }

    final int k;
    final int n;
    final List<Stored> files = new ArrayList<>();
    final boolean[] up;
    final boolean[] stuck;
    final int[] draft;
    int[] read = null;

    PlainGrid(int needed, int servers) {
        k = needed < 1 ? 1 : needed > 4 ? 4 : needed;
        n = servers < k ? k : servers > 7 ? 7 : servers;
        up = new boolean[n];
        stuck = new boolean[n];
        java.util.Arrays.fill(up, true);
        draft = new int[k];
    }

    private Stored under(int verifyKey) {
        for (Stored file : files) {
            if (file.verifyKey == verifyKey) {
                return file;
            }
        }
        return null;
    }

    private boolean in(int x, int bound) {
        return x >= 0 && x < bound;
    }

    private int ups() {
        int sum = 0;
        for (boolean isUp : up) {
            sum += isUp ? 1 : 0;
        }
        return sum;
    }

    private List<Integer> places(Stored file, int number) {
        List<Integer> places = new ArrayList<>();
        for (int s = 0; s < n; s++) {
            if (up[s] && file.isSound(s) && file.records.get(s).number == number) {
                places.add(s);
            }
        }
        return places;
    }

    private int bestOf(Stored file) {
        int best = 0;
        for (int number = 1; number <= file.notes.size(); number++) {
            if (places(file, number).size() >= k) {
                best = number;
            }
        }
        return best;
    }

    private int[] cipherOf(Stored file, int number) {
        int[] least = new int[k];
        int[] shares = new int[k];
        for (int j = 0; j < k; j++) {
            least[j] = places(file, number).get(j);
            shares[j] = file.records.get(least[j]).share;
        }
        return Terms.decode(least, shares);
    }

    int key(int key, int step) {
        return step == 1 ? Terms.mix(key, 1) : step == 2 ? Terms.mix(key, 2)
                : step == 3 ? Terms.verifyKey(key) : 0;
    }

    int create(int writeKey) {
        if (under(Terms.verifyKey(writeKey)) != null) {
            return -1;
        }
        if (files.size() == 6) {
            return -2;
        }
        files.add(new Stored(Terms.verifyKey(writeKey)));
        return files.size() - 1;
    }

    int draft(int i, int word) {
        if (!in(i, k)) {
            return -1;
        }
        draft[i] = word;
        return 0;
    }

    int write(int writeKey) {
        Stored file = under(Terms.verifyKey(writeKey));
        if (file == null) {
            return -1;
        }
        if (ups() < k) {
            return -3;
        }
        int number = file.notes.size() + 1;
        if (number > 30) {
            return -2;
        }
        int[] cipher = Terms.cipher(Terms.readKey(writeKey), number, draft);
        int[] prints = Terms.fingerprints(cipher, n);
        int root = Terms.root(prints, number);
        int seal = Terms.seal(root, writeKey);
        file.notes.add(new Note(root, seal));
        int took = 0;
        for (int s = 0; s < n; s++) {
            if (up[s] && !stuck[s]) {
                file.records.put(s, new Rec(Terms.share(cipher, s), number, seal, listOf(prints)));
                took++;
            }
        }
        return took;
    }

    static List<Integer> listOf(int[] prints) {
        return java.util.Arrays.stream(prints).boxed().toList();
    }

    int read(int readKey) {
        Stored file = under(Terms.mix(readKey, 2));
        if (file == null) {
            return -1;
        }
        int best = bestOf(file);
        if (best == 0) {
            return -3;
        }
        // deciphering is enciphering again, as both are the same xor
        read = Terms.cipher(readKey, best, cipherOf(file, best));
        return best;
    }

    long word(int i) {
        return read == null || !in(i, k) ? -1000000000000L : read[i];
    }

    int sound(int verifyKey) {
        Stored file = under(verifyKey);
        if (file == null) {
            return -1;
        }
        int sum = 0;
        for (int s = 0; s < n; s++) {
            sum += up[s] && file.isSound(s) ? 1 : 0;
        }
        return sum;
    }

    int best(int verifyKey) {
        Stored file = under(verifyKey);
        return file == null ? -1 : bestOf(file);
    }

    int repair(int verifyKey) {
        Stored file = under(verifyKey);
        if (file == null) {
            return -1;
        }
        int best = bestOf(file);
        if (best == 0) {
            return -3;
        }
        int[] cipher = cipherOf(file, best);
        Rec least = file.records.get(places(file, best).get(0));
        int got = 0;
        for (int s = 0; s < n; s++) {
            if (up[s] && !stuck[s] && !places(file, best).contains(s)) {
                int share = Terms.share(cipher, s);
                file.records.put(s, new Rec(share, best, least.seal, least.fingerprints));
                got++;
            }
        }
        return got;
    }

    int server(int s, boolean isUp, boolean isStuck) {
        if (!in(s, n)) {
            return -1;
        }
        up[s] = isUp;
        stuck[s] = isStuck;
        return 0;
    }

    int tamper(int f, int s, int what, int x) {
        if (!in(f, files.size()) || !in(s, n) || !in(what, 3 + n)) {
            return -1;
        }
        Rec r = files.get(f).records.get(s);
        if (r == null) {
            return -1;
        }
        int[] prints = r.prints();
        if (what >= 3) {
            prints[what - 3] ^= x;
        }
        files.get(f).records.put(s, new Rec(what == 0 ? r.share ^ x : r.share,
                what == 1 ? r.number ^ x : r.number, what == 2 ? r.seal ^ x : r.seal, listOf(prints)));
        return 0;
    }

    int picture(int f, int s) {
        if (!in(f, files.size()) || !in(s, n) || !files.get(f).records.containsKey(s)) {
            return -1;
        }
        files.get(f).pictures.put(s, files.get(f).records.get(s));
        return 0;
    }

    int fallBack(int f, int s) {
        if (!in(f, files.size()) || !in(s, n) || !files.get(f).pictures.containsKey(s)) {
            return -1;
        }
        files.get(f).records.put(s, files.get(f).pictures.get(s));
        return 0;
    }

    int wipe(int f, int s) {
        if (!in(f, files.size()) || !in(s, n)) {
            return -1;
        }
        files.get(f).records.remove(s);
        return 0;
    }

    long share(int f, int s, int what) {
        Rec r = in(f, files.size()) && in(s, n) ? files.get(f).records.get(s) : null;
        if (r == null || !in(what, 3)) {
            return -1000000000000L;
        }
        return what == 0 ? r.share : what == 1 ? r.number : r.seal;
    }

    int times(int a, int b) {
        return in(a, 256) && in(b, 256) ? Terms.times(a, b) : -1;
    }

    int count(int what) {
        if (what >= 10 && what - 10 < files.size()) {
            return files.get(what - 10).notes.size();
        }
        return what == 0 ? files.size() : what == 1 ? ups() : what == 2 ? k : what == 3 ? n : -1;
    }
}
