import java.util.ArrayList;
import java.util.List;
import java.util.function.Supplier;
import java.util.function.ToLongFunction;

/**
 * A call that is refused, LOST or FULL changes nothing: all calls behind it answer as on a twin of the
 * object on which it was not made.
 */
public final class NothingChangedTest extends TestBase {
    private static final int FIRST_KEY = 100;

    /** A call that is due to answer below 0. */
    private record Refused(String words, long answer, ToLongFunction<ShareGrid> call) {
    }

    private final String scene;
    private final Supplier<ShareGrid> made;
    private final int files;
    private final List<Refused> refused = new ArrayList<>();

    private NothingChangedTest(String scene, int files, Supplier<ShareGrid> made) {
        this.scene = scene;
        this.files = files;
        this.made = made;
        addUnknownKeys();
        addNumbersOutOfRange();
        addFilesAndServersOutOfRange();
    }

    public static void main(String[] args) {
        String sentence = "A refused call (an answer below 0) changes nothing";
        for (NothingChangedTest test : scenes()) {
            Sentences.holds("Terms", sentence, test::compareWithTwins);
        }
        Due.finish();
    }

    private static List<NothingChangedTest> scenes() {
        return List.of(newObject(), fileWithoutVersions(), busy(), tooFewUp("no server up", 0),
                tooFewUp("one server up", 0b0001), noneSound(), sixFiles(), thirtyNumbers(),
                thirtyNumbersAndTooFewUp(), unread(), unreadAndTooFewUp());
    }

    private static ShareGrid created(int files) {
        ShareGrid g = new ShareGrid(Looks.NEEDED, Looks.SERVERS);
        for (int f = 0; f < files; f++) {
            g.create(FIRST_KEY + f);
        }
        draftAll(g, 1234, -5678);
        return g;
    }

    /**
     * Three files, the first with three versions, pictures, a wiped and a tampered record, the second
     * with one that was READ, the third without any; a server STUCK, one down, and a DRAFT not written.
     */
    private static ShareGrid busyGrid() {
        ShareGrid g = created(3);
        g.write(FIRST_KEY);
        g.picture(0, 0);
        g.picture(0, 2);
        g.write(FIRST_KEY);
        g.server(3, true, true);
        g.write(FIRST_KEY);
        g.wipe(0, 2);
        g.tamper(0, 3, 4, 9);
        g.server(1, false, false);
        draftAll(g, 77, 88);
        g.write(FIRST_KEY + 1);
        g.server(1, true, false);
        g.read(Terms.readKey(FIRST_KEY + 1));
        g.server(1, false, false);
        draftAll(g, MIN, MAX);
        return g;
    }

    /** The busy grid with six files. */
    private static ShareGrid sixFilesGrid() {
        ShareGrid g = busyGrid();
        for (int f = 3; f < 6; f++) {
            g.create(FIRST_KEY + f);
        }
        return g;
    }

    /** The busy grid with as many versions of its first file as there can be. */
    private static ShareGrid thirtyNumbersGrid() {
        ShareGrid g = busyGrid();
        for (int number = 4; number <= 30; number++) {
            g.write(FIRST_KEY);
        }
        return g;
    }

    private static NothingChangedTest newObject() {
        NothingChangedTest test = new NothingChangedTest("a new object", 0, () -> created(0));
        test.add("word(0)", NONE, g -> g.word(0));
        test.add("count(10)", REFUSED, g -> g.count(10));
        return test;
    }

    private static NothingChangedTest fileWithoutVersions() {
        NothingChangedTest test = new NothingChangedTest("a file without versions", 1, () -> created(1));
        test.add("create(100)", REFUSED, g -> g.create(FIRST_KEY));
        test.addNoRecord(0, 0);
        test.add("fallBack(0, 0)", REFUSED, g -> g.fallBack(0, 0));
        test.addLostReadAndRepair(FIRST_KEY);
        return test;
    }

    private static NothingChangedTest busy() {
        NothingChangedTest test = new NothingChangedTest("a busy grid", 3, NothingChangedTest::busyGrid);
        for (int f = 0; f < 3; f++) {
            int key = FIRST_KEY + f;
            test.add("create(" + key + ")", REFUSED, g -> g.create(key));
        }
        test.addNoRecord(0, 2);
        test.addNoRecord(1, 1);
        test.add("fallBack(0, 1)", REFUSED, g -> g.fallBack(0, 1));
        test.add("fallBack(1, 0)", REFUSED, g -> g.fallBack(1, 0));
        test.addLostReadAndRepair(FIRST_KEY + 2);
        return test;
    }

    private static ShareGrid withUp(ShareGrid g, int set) {
        upJust(g, set);
        return g;
    }

    private static NothingChangedTest tooFewUp(String scene, int set) {
        NothingChangedTest test = new NothingChangedTest(scene, 3, () -> withUp(busyGrid(), set));
        test.addLost(FIRST_KEY);
        test.addLost(FIRST_KEY + 1);
        test.addLost(FIRST_KEY + 2);
        return test;
    }

    private static ShareGrid noneSoundGrid() {
        ShareGrid g = busyGrid();
        for (int s = 0; s < Looks.SERVERS; s++) {
            g.tamper(1, s, s, 1);
        }
        return g;
    }

    private static NothingChangedTest noneSound() {
        NothingChangedTest test =
                new NothingChangedTest("no sound record", 3, NothingChangedTest::noneSoundGrid);
        test.addLostReadAndRepair(FIRST_KEY + 1);
        return test;
    }

    private static NothingChangedTest sixFiles() {
        NothingChangedTest test = new NothingChangedTest("six files", 6, NothingChangedTest::sixFilesGrid);
        test.add("create(106)", FULL, g -> g.create(FIRST_KEY + 6));
        test.add("create(105)", REFUSED, g -> g.create(FIRST_KEY + 5));
        return test;
    }

    private static NothingChangedTest thirtyNumbers() {
        NothingChangedTest test =
                new NothingChangedTest("thirty numbers", 3, NothingChangedTest::thirtyNumbersGrid);
        test.add("write(100)", FULL, g -> g.write(FIRST_KEY));
        return test;
    }

    private static NothingChangedTest thirtyNumbersAndTooFewUp() {
        NothingChangedTest test = new NothingChangedTest("thirty numbers, one server up", 3,
                () -> withUp(thirtyNumbersGrid(), 0b1000));
        test.addLost(FIRST_KEY);
        test.addLost(FIRST_KEY + 1);
        return test;
    }

    /** As full as can be, and nothing READ. */
    private static ShareGrid unreadGrid() {
        ShareGrid g = created(6);
        for (int number = 1; number <= 30; number++) {
            g.write(FIRST_KEY);
        }
        draftAll(g, 3, 4);
        return g;
    }

    private static NothingChangedTest unread() {
        NothingChangedTest test = new NothingChangedTest("nothing read", 6, NothingChangedTest::unreadGrid);
        test.add("create(106)", FULL, g -> g.create(FIRST_KEY + 6));
        test.add("write(100)", FULL, g -> g.write(FIRST_KEY));
        test.add("word(0)", NONE, g -> g.word(0));
        return test;
    }

    private static NothingChangedTest unreadAndTooFewUp() {
        NothingChangedTest test = new NothingChangedTest("nothing read, one server up", 6,
                () -> withUp(unreadGrid(), 0b0001));
        test.addLost(FIRST_KEY);
        test.addLost(FIRST_KEY + 5);
        return test;
    }

    private void add(String words, long answer, ToLongFunction<ShareGrid> call) {
        refused.add(new Refused(words, answer, call));
    }

    private void addLost(int writeKey) {
        add("write(" + writeKey + ")", LOST, g -> g.write(writeKey));
        addLostReadAndRepair(writeKey);
    }

    private void addLostReadAndRepair(int writeKey) {
        int readKey = Terms.readKey(writeKey);
        int verifyKey = Terms.verifyKey(writeKey);
        add("read(" + readKey + ")", LOST, g -> g.read(readKey));
        add("repair(" + verifyKey + ")", LOST, g -> g.repair(verifyKey));
    }

    private void addNoRecord(int f, int s) {
        String place = "(" + f + ", " + s + ")";
        for (int what = 0; what < 3 + Looks.SERVERS; what++) {
            int part = what;
            add("tamper" + place + " " + part, REFUSED, g -> g.tamper(f, s, part, -1));
        }
        add("picture" + place, REFUSED, g -> g.picture(f, s));
        add("share" + place, NONE, g -> g.share(f, s, 0));
    }

    /** Keys that are new, or that are of another kind. */
    private void addUnknownKeys() {
        int w = FIRST_KEY;
        int r = Terms.readKey(w);
        int v = Terms.verifyKey(w);
        for (int key : new int[] {r, v, 0, MIN, MAX, FIRST_KEY + 6}) {
            add("write(" + key + ")", REFUSED, g -> g.write(key));
        }
        for (int key : new int[] {w, v, 0, MIN, MAX, Terms.readKey(FIRST_KEY + 6)}) {
            add("read(" + key + ")", REFUSED, g -> g.read(key));
        }
        for (int key : new int[] {w, r, 0, MIN, MAX, Terms.verifyKey(FIRST_KEY + 6)}) {
            add("sound(" + key + ")", REFUSED, g -> g.sound(key));
            add("best(" + key + ")", REFUSED, g -> g.best(key));
            add("repair(" + key + ")", REFUSED, g -> g.repair(key));
        }
    }

    private void addNumbersOutOfRange() {
        for (int i : outside(0, Looks.NEEDED - 1)) {
            add("draft(" + i + ", 9)", REFUSED, g -> g.draft(i, 9));
            add("word(" + i + ")", NONE, g -> g.word(i));
        }
        for (int b : outside(0, 255)) {
            add("times(" + b + ", 1)", REFUSED, g -> g.times(b, 1));
            add("times(1, " + b + ")", REFUSED, g -> g.times(1, b));
        }
        for (int what : new int[] {-1, 4, 9, 10 + files, 16, MIN, MAX}) {
            add("count(" + what + ")", REFUSED, g -> g.count(what));
        }
        for (int what : outside(0, 2 + Looks.SERVERS)) {
            add("tamper(0, 0, " + what + ", -1)", REFUSED, g -> g.tamper(0, 0, what, -1));
        }
        for (int what : outside(0, 2)) {
            add("share(0, 0, " + what + ")", NONE, g -> g.share(0, 0, what));
        }
    }

    private void addFilesAndServersOutOfRange() {
        for (int f : outside(0, files - 1)) {
            addOutOfRange(f, 0);
        }
        for (int s : outside(0, Looks.SERVERS - 1)) {
            addOutOfRange(0, s);
            add("server(" + s + ", false, true)", REFUSED, g -> g.server(s, false, true));
            add("server(" + s + ", true, false)", REFUSED, g -> g.server(s, true, false));
        }
    }

    private void addOutOfRange(int f, int s) {
        addNoRecord(f, s);
        String place = "(" + f + ", " + s + ")";
        add("fallBack" + place, REFUSED, g -> g.fallBack(f, s));
        add("wipe" + place, REFUSED, g -> g.wipe(f, s));
    }

    private void compareWithTwins() {
        for (Looks look : Looks.values()) {
            List<Long> want = look.at(made.get());
            for (Refused call : refused) {
                ShareGrid g = made.get();
                due(scene + ": " + call.words, call.call.applyAsLong(g), call.answer);
                same(call.words, look, g, want);
            }
            ShareGrid g = made.get();
            for (Refused call : refused) {
                due(scene + ": " + call.words + " after others", call.call.applyAsLong(g), call.answer);
            }
            same("all of these", look, g, want);
        }
    }

    private void same(String calls, Looks look, ShareGrid g, List<Long> want) {
        List<Long> seen = look.at(g);
        for (int i = 0; i < want.size(); i++) {
            due(scene + ": behind " + calls + ", " + look + " " + i, seen.get(i), want.get(i));
        }
    }
}
