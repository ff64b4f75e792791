import java.util.Random;

/** Runs of calls drawn from fixed seeds, each call made on the program and on the plain model. */
public final class ModelTest {
    private static final int RUNS = 3000;
    private static final int CALLS = 512;
    private static final int[] WRITE_KEYS = {5, -9, 0, 77, Integer.MIN_VALUE, Integer.MAX_VALUE, 1, -1};
    private static final int[] ODD_NUMBERS = {
        -1, 4, 7, 10, 16, 31, 255, 256, 1 << 30, Integer.MIN_VALUE, Integer.MAX_VALUE
    };

    private final Random random;
    private final int run;
    private final int keys;
    private final ShareGrid grid;
    private final PlainGrid model;
    private int calls = 0;

    private ModelTest(int run) {
        this.run = run;
        random = new Random(run);
        // few keys make files with many versions, many keys make all the files there can be
        keys = 1 + random.nextInt(WRITE_KEYS.length);
        int needed = random.nextInt(7) - 1;
        int servers = random.nextInt(10) - 1;
        grid = new ShareGrid(needed, servers);
        model = new PlainGrid(needed, servers);
    }

    public static void main(String[] args) {
        for (int run = 0; run < RUNS; run++) {
            int wrongBefore = Due.wrongSoFar();
            ModelTest test = new ModelTest(run);
            while (test.calls < CALLS - 60 && Due.wrongSoFar() == wrongBefore) {
                test.step();
            }
            test.lookAtAll();
        }
        Due.finish();
    }

    private void same(String call, long got, long want) {
        calls++;
        Due.due("run " + run + ", call " + calls + ": " + call, got, want);
    }

    /** Mostly a number from 0 to bound - 1, now and then one that may be out of range. */
    private int number(int bound) {
        if (random.nextInt(25) == 0) {
            return random.nextBoolean() ? bound : ODD_NUMBERS[random.nextInt(ODD_NUMBERS.length)];
        }
        return random.nextInt(bound);
    }

    private int writeKey() {
        return random.nextInt(40) == 0 ? random.nextInt() : WRITE_KEYS[random.nextInt(keys)];
    }

    private int file() {
        return number(Math.max(1, model.files.size()));
    }

    private void step() {
        // some runs write so often that the NUMBERS come to their end
        int draw = run % 4 == 0 && random.nextInt(3) == 0 ? 17 : random.nextInt(100);
        if (draw < 30) {
            writeOrRead(draw);
        } else if (draw < 55) {
            verifyOrRepair(draw);
        } else if (draw < 70) {
            server();
        } else if (draw < 95) {
            handleRecord(draw);
        } else {
            ask();
        }
    }

    private void writeOrRead(int draw) {
        int key = writeKey();
        if (draw < 3) {
            same("create(" + key + ")", grid.create(key), model.create(key));
        } else if (draw < 10) {
            int i = number(model.k);
            int word = random.nextInt();
            same("draft(" + i + ", " + word + ")", grid.draft(i, word), model.draft(i, word));
        } else if (draw < 18) {
            same("write(" + key + ")", grid.write(key), model.write(key));
        } else {
            int readKey = random.nextInt(40) == 0 ? key : Terms.readKey(key);
            same("read(" + readKey + ")", grid.read(readKey), model.read(readKey));
            for (int i = 0; i < model.k; i++) {
                same("word(" + i + ")", grid.word(i), model.word(i));
            }
        }
    }

    private void verifyOrRepair(int draw) {
        int key = writeKey();
        int verifyKey = random.nextInt(40) == 0 ? key : Terms.verifyKey(key);
        if (draw < 38) {
            same("sound(" + verifyKey + ")", grid.sound(verifyKey), model.sound(verifyKey));
        } else if (draw < 46) {
            same("best(" + verifyKey + ")", grid.best(verifyKey), model.best(verifyKey));
        } else {
            same("repair(" + verifyKey + ")", grid.repair(verifyKey), model.repair(verifyKey));
        }
    }

    private void server() {
        int s = number(model.n);
        boolean up = random.nextInt(4) != 0;
        boolean stuck = random.nextInt(4) == 0;
        same("server(" + s + ", " + up + ", " + stuck + ")", grid.server(s, up, stuck),
                model.server(s, up, stuck));
    }

    private void handleRecord(int draw) {
        int f = file();
        int s = number(model.n);
        String place = "(" + f + ", " + s + ")";
        if (draw < 74) {
            same("picture" + place, grid.picture(f, s), model.picture(f, s));
        } else if (draw < 78) {
            same("fallBack" + place, grid.fallBack(f, s), model.fallBack(f, s));
        } else if (draw < 80) {
            same("wipe" + place, grid.wipe(f, s), model.wipe(f, s));
        } else if (draw < 84) {
            int x = random.nextInt(3) == 0 ? random.nextInt() : random.nextInt(4);
            tamper(f, s, number(3 + model.n), x);
        } else if (draw < 90) {
            forge(f, s);
        } else {
            int what = number(3);
            same("share" + place + " " + what, grid.share(f, s, what), model.share(f, s, what));
        }
    }

    private void tamper(int f, int s, int what, int x) {
        same("tamper(" + f + ", " + s + ", " + what + ", " + x + ")", grid.tamper(f, s, what, x),
                model.tamper(f, s, what, x));
    }

    /** Makes of a record a SOUND one of some NUMBER, with a share that nobody wrote. */
    private void forge(int f, int s) {
        if (f < 0 || f >= model.files.size() || model.n < 2) {
            return;
        }
        PlainGrid.Stored file = model.files.get(f);
        PlainGrid.Rec r = file.records.get(s);
        if (r == null || file.notes.isEmpty()) {
            return;
        }
        int number = file.notes.size() - random.nextInt(Math.min(3, file.notes.size()));
        PlainGrid.Note note = file.notes.get(number - 1);
        int share = random.nextInt();
        int q = (s + 1 + random.nextInt(model.n - 1)) % model.n;
        int[] prints = r.prints();
        prints[s] = Terms.mix(share, s + 100);
        prints[q] = Terms.fingerprintForRoot(prints, number, q, note.root());
        tamper(f, s, 0, r.share() ^ share);
        tamper(f, s, 1, r.number() ^ number);
        tamper(f, s, 2, r.seal() ^ note.seal());
        tamper(f, s, 3 + s, r.prints()[s] ^ prints[s]);
        tamper(f, s, 3 + q, r.prints()[q] ^ prints[q]);
        Due.due("run " + run + ": the forged record is sound", file.isSound(s));
    }

    private void ask() {
        int a = number(256);
        int b = number(256);
        int step = random.nextInt(7) - 1;
        int what = random.nextInt(20) - 1;
        same("times(" + a + ", " + b + ")", grid.times(a, b), model.times(a, b));
        same("key(" + a + ", " + step + ")", grid.key(a, step), model.key(a, step));
        same("word(" + b + ")", grid.word(b), model.word(b));
        same("count(" + what + ")", grid.count(what), model.count(what));
    }

    private void lookAtAll() {
        for (int what = 0; what < 16; what++) {
            same("count(" + what + ")", grid.count(what), model.count(what));
        }
        for (PlainGrid.Stored file : model.files) {
            int verifyKey = file.verifyKey;
            same("sound(" + verifyKey + ")", grid.sound(verifyKey), model.sound(verifyKey));
            same("best(" + verifyKey + ")", grid.best(verifyKey), model.best(verifyKey));
        }
        int f = file();
        for (int s = 0; s < model.n; s++) {
            for (int what = 0; what < 3; what++) {
                same("share(" + f + ", " + s + ", " + what + ")", grid.share(f, s, what),
                        model.share(f, s, what));
            }
        }
    }
}
