import java.util.Arrays;

/**
 * A store of small files on servers that may fail, lie or fall back. The words in capitals in the
 * comments are the terms of the document.
 *
 * <p>All rows are made in the constructor and used again, so that no call makes an object.
 */
public final class ShareGrid {
    public static final int DONE = 0;
    public static final int REFUSED = -1;
    public static final int FULL = -2;
    public static final int LOST = -3;
    public static final long NONE = -1000000000000L;

    private static final int MOST_NEEDED = 4;
    private static final int MOST_SERVERS = 7;
    private static final int MOST_FILES = 6;
    private static final int LAST_NUMBER = 30;

    private static final int TO_READ_KEY = 1;
    private static final int TO_VERIFY_KEY = 2;
    private static final int WRITE_TO_VERIFY_KEY = 3;

    private static final int SHARE = 0;
    private static final int NUMBER = 1;
    private static final int SEAL = 2;
    private static final int FIRST_FINGERPRINT = 3;

    private static final int COUNT_FILES = 0;
    private static final int COUNT_UP = 1;
    private static final int COUNT_NEEDED = 2;
    private static final int COUNT_SERVERS = 3;
    private static final int COUNT_FIRST_FILE = 10;

    private final int needed;
    private final int servers;
    private final boolean[] up;
    private final boolean[] stuck;
    private final StoredFile[] files;
    private final int[] draftWords;
    private final int[] readWords;
    private final Coder coder;
    private final ServerRecord fresh;
    private final int[] seenOfNumber;
    private int fileCount;
    private boolean hasRead;

    public ShareGrid(int needed, int servers) {
        this.needed = clamped(needed, 1, MOST_NEEDED);
        this.servers = clamped(servers, this.needed, MOST_SERVERS);
        up = new boolean[this.servers];
        stuck = new boolean[this.servers];
        for (int s = 0; s < this.servers; s++) {
            up[s] = true;
        }
        files = new StoredFile[MOST_FILES];
        for (int f = 0; f < MOST_FILES; f++) {
            files[f] = new StoredFile(this.servers);
        }
        draftWords = new int[this.needed];
        readWords = new int[this.needed];
        coder = new Coder(this.needed);
        fresh = new ServerRecord(this.servers);
        seenOfNumber = new int[LAST_NUMBER + 1];
        fileCount = 0;
        hasRead = false;
    }

    public int key(int key, int step) {
        switch (step) {
            case TO_READ_KEY:
                return readKeyOf(key);
            case TO_VERIFY_KEY:
                return verifyKeyOf(key);
            case WRITE_TO_VERIFY_KEY:
                return verifyKeyOf(readKeyOf(key));
            default:
                return 0;
        }
    }

    public int create(int writeKey) {
        int verifyKey = verifyKeyOf(readKeyOf(writeKey));
        if (fileUnder(verifyKey) >= 0) {
            return REFUSED;
        }
        if (fileCount >= MOST_FILES) {
            return FULL;
        }
        files[fileCount].verifyKey = verifyKey;
        fileCount++;
        return fileCount - 1;
    }

    public int draft(int i, int word) {
        if (!isWordPlace(i)) {
            return REFUSED;
        }
        draftWords[i] = word;
        return DONE;
    }

    public int write(int writeKey) {
        int readKey = readKeyOf(writeKey);
        int f = fileUnder(verifyKeyOf(readKey));
        if (f < 0) {
            return REFUSED;
        }
        if (serversUp() < needed) {
            return LOST;
        }
        StoredFile file = files[f];
        if (file.written >= LAST_NUMBER) {
            return FULL;
        }
        int number = file.written + 1;
        for (int i = 0; i < needed; i++) {
            coder.cipherWords[i] = draftWords[i] ^ cipherMask(readKey, number, i);
        }
        int root = makeFreshRecord(number, writeKey);
        file.noteNext(root, fresh.seal);
        int took = 0;
        for (int s = 0; s < servers; s++) {
            if (takesRecords(s)) {
                giveFreshRecord(file, s);
                took++;
            }
        }
        return took;
    }

    public int read(int readKey) {
        int f = fileUnder(verifyKeyOf(readKey));
        if (f < 0) {
            return REFUSED;
        }
        int number = bestNumber(files[f]);
        if (number == 0) {
            return LOST;
        }
        decodeVersion(files[f], number);
        for (int i = 0; i < needed; i++) {
            readWords[i] = coder.cipherWords[i] ^ cipherMask(readKey, number, i);
        }
        hasRead = true;
        return number;
    }

    public long word(int i) {
        if (!hasRead || !isWordPlace(i)) {
            return NONE;
        }
        return readWords[i];
    }

    public int sound(int verifyKey) {
        int f = fileUnder(verifyKey);
        if (f < 0) {
            return REFUSED;
        }
        int seenAndSound = 0;
        for (int s = 0; s < servers; s++) {
            if (up[s] && files[f].isSoundAt(s)) {
                seenAndSound++;
            }
        }
        return seenAndSound;
    }

    public int best(int verifyKey) {
        int f = fileUnder(verifyKey);
        if (f < 0) {
            return REFUSED;
        }
        return bestNumber(files[f]);
    }

    public int repair(int verifyKey) {
        int f = fileUnder(verifyKey);
        if (f < 0) {
            return REFUSED;
        }
        StoredFile file = files[f];
        int number = bestNumber(file);
        if (number == 0) {
            return LOST;
        }
        int least = decodeVersion(file, number);
        fresh.copyFrom(file.records[least]);
        int got = 0;
        for (int s = 0; s < servers; s++) {
            if (takesRecords(s) && !file.isSoundWith(s, number)) {
                giveFreshRecord(file, s);
                got++;
            }
        }
        return got;
    }

    public int server(int s, boolean up, boolean stuck) {
        if (!isPlace(s)) {
            return REFUSED;
        }
        this.up[s] = up;
        this.stuck[s] = stuck;
        return DONE;
    }

    public int tamper(int f, int s, int what, int x) {
        if (!isFile(f) || !isPlace(s) || what < SHARE || what >= FIRST_FINGERPRINT + servers) {
            return REFUSED;
        }
        ServerRecord record = files[f].records[s];
        if (!record.held) {
            return REFUSED;
        }
        switch (what) {
            case SHARE:
                record.share ^= x;
                break;
            case NUMBER:
                record.number ^= x;
                break;
            case SEAL:
                record.seal ^= x;
                break;
            default:
                record.fingerprints[what - FIRST_FINGERPRINT] ^= x;
                break;
        }
        return DONE;
    }

    public int picture(int f, int s) {
        if (!isFile(f) || !isPlace(s) || !files[f].records[s].held) {
            return REFUSED;
        }
        files[f].pictures[s].copyFrom(files[f].records[s]);
        return DONE;
    }

    public int fallBack(int f, int s) {
        if (!isFile(f) || !isPlace(s) || !files[f].pictures[s].held) {
            return REFUSED;
        }
        files[f].records[s].copyFrom(files[f].pictures[s]);
        return DONE;
    }

    public int wipe(int f, int s) {
        if (!isFile(f) || !isPlace(s)) {
            return REFUSED;
        }
        files[f].records[s].held = false;
        return DONE;
    }

    public long share(int f, int s, int what) {
        if (!isFile(f) || !isPlace(s) || !files[f].records[s].held) {
            return NONE;
        }
        ServerRecord record = files[f].records[s];
        switch (what) {
            case SHARE:
                return record.share;
            case NUMBER:
                return record.number;
            case SEAL:
                return record.seal;
            default:
                return NONE;
        }
    }

    public int times(int a, int b) {
        if (!isByte(a) || !isByte(b)) {
            return REFUSED;
        }
        return scaled(a, b);
    }

    public int count(int what) {
        switch (what) {
            case COUNT_FILES:
                return fileCount;
            case COUNT_UP:
                return serversUp();
            case COUNT_NEEDED:
                return needed;
            case COUNT_SERVERS:
                return servers;
            default:
                return greatestNumber(what - COUNT_FIRST_FILE);
        }
    }

    private int greatestNumber(int f) {
        return isFile(f) ? files[f].written : REFUSED;
    }

    private static int clamped(int x, int least, int most) {
        return Math.max(least, Math.min(x, most));
    }

    private boolean isWordPlace(int i) {
        return i >= 0 && i < needed;
    }

    private boolean isPlace(int s) {
        return s >= 0 && s < servers;
    }

    private boolean isFile(int f) {
        return f >= 0 && f < fileCount;
    }

    private static boolean isByte(int x) {
        return x >= 0 && x <= 255;
    }

    /** The number of the file under the VERIFY KEY, or -1. */
    private int fileUnder(int verifyKey) {
        for (int f = 0; f < fileCount; f++) {
            if (files[f].verifyKey == verifyKey) {
                return f;
            }
        }
        return -1;
    }

    private boolean takesRecords(int s) {
        return up[s] && !stuck[s];
    }

    private int serversUp() {
        int sum = 0;
        for (int s = 0; s < servers; s++) {
            if (up[s]) {
                sum++;
            }
        }
        return sum;
    }

    private int bestNumber(StoredFile file) {
        Arrays.fill(seenOfNumber, 0);
        for (int s = 0; s < servers; s++) {
            if (up[s] && file.isSoundAt(s)) {
                seenOfNumber[file.records[s].number]++;
            }
        }
        for (int number = file.written; number >= 1; number--) {
            if (seenOfNumber[number] >= needed) {
                return number;
            }
        }
        return 0;
    }

    /**
     * Leaves the version's CIPHER WORDS in the coder and answers the least place that gave a share.
     * The NUMBER is the BEST one and above 0, so that there are shares enough.
     */
    private int decodeVersion(StoredFile file, int number) {
        int got = 0;
        for (int s = 0; s < servers && got < needed; s++) {
            if (up[s] && file.isSoundWith(s, number)) {
                coder.points[got] = pointOf(s);
                coder.cipherWords[got] = file.records[s].share;
                got++;
            }
        }
        coder.decodeShares();
        return placeOf(coder.points[0]);
    }

    /** Makes all but the share of a new record from the coder's CIPHER WORDS; answers the ROOT. */
    private int makeFreshRecord(int number, int writeKey) {
        fresh.number = number;
        for (int s = 0; s < servers; s++) {
            fresh.fingerprints[s] = fingerprint(coder.shareAt(s), s);
        }
        int root = fresh.rootOfFingerprints();
        fresh.seal = mix(root, writeKey) ^ writeKey;
        fresh.held = true;
        return root;
    }

    private void giveFreshRecord(StoredFile file, int s) {
        fresh.share = coder.shareAt(s);
        file.records[s].copyFrom(fresh);
    }

    private static int mix(int a, int b) {
        int product = (a ^ (b * 40503 + 12345)) * 1640531527;
        return product ^ (product >>> 15);
    }

    private static int readKeyOf(int writeKey) {
        return mix(writeKey, 1);
    }

    private static int verifyKeyOf(int readKey) {
        return mix(readKey, 2);
    }

    private static int cipherMask(int readKey, int number, int i) {
        return mix(readKey, number * 8 + i);
    }

    private static int fingerprint(int share, int s) {
        return mix(share, s + 100);
    }

    /** The byte at which the share of place s is taken; never 0, and different for each place. */
    private static int pointOf(int s) {
        return s + 1;
    }

    private static int placeOf(int point) {
        return point - 1;
    }

    /** Each of the word's four bytes times the factor, a byte. */
    private static int scaled(int word, int factor) {
        int sum = 0;
        int power = word;
        for (int bit = 0; bit < 8; bit++) {
            if ((factor >>> bit & 1) != 0) {
                sum ^= power;
            }
            power = timesX(power);
        }
        return sum;
    }

    /** Each of the word's four bytes times x: where x^8 falls out, x^4 + x^3 + x^2 + 1 comes in. */
    private static int timesX(int word) {
        int overflows = word >>> 7 & 0x01010101;
        return (word & 0x7f7f7f7f) << 1 ^ overflows * 0x1d;
    }

    /** The byte that times this one is 1: its 254th power, as every 255th power but that of 0 is 1. */
    private static int inverse(int x) {
        int product = 1;
        int square = x;
        for (int bit = 1; bit < 8; bit++) {
            square = scaled(square, square);
            product = scaled(product, square);
        }
        return product;
    }

    /** Turns CIPHER WORDS into SHARES and back, all four bytes of a word at once. */
    private static final class Coder {
        private final int needed;
        private final int[] cipherWords;
        private final int[] points;

        private Coder(int needed) {
            this.needed = needed;
            cipherWords = new int[needed];
            points = new int[needed];
        }

        private int shareAt(int s) {
            int sum = 0;
            for (int i = needed - 1; i >= 0; i--) {
                sum = scaled(sum, pointOf(s)) ^ cipherWords[i];
            }
            return sum;
        }

        /** The shares at the points, put into cipherWords, become the CIPHER WORDS in place. */
        private void decodeShares() {
            sharesToDifferences();
            differencesToCipherWords();
        }

        /** Newton's divided differences; the points differ, so no gap is 0. */
        private void sharesToDifferences() {
            for (int level = 1; level < needed; level++) {
                for (int j = needed - 1; j >= level; j--) {
                    int gap = points[j] ^ points[j - level];
                    cipherWords[j] = scaled(cipherWords[j] ^ cipherWords[j - 1], inverse(gap));
                }
            }
        }

        /** Multiplies Newton's form out, from the innermost bracket on. */
        private void differencesToCipherWords() {
            for (int bracket = needed - 2; bracket >= 0; bracket--) {
                for (int j = bracket; j < needed - 1; j++) {
                    cipherWords[j] ^= scaled(cipherWords[j + 1], points[bracket]);
                }
            }
        }
    }

    /** A RECORD, or a picture of one; a row that is not held stands for none. */
    private static final class ServerRecord {
        private final int[] fingerprints;
        private boolean held;
        private int share;
        private int number;
        private int seal;

        private ServerRecord(int servers) {
            fingerprints = new int[servers];
        }

        private void copyFrom(ServerRecord other) {
            held = other.held;
            share = other.share;
            number = other.number;
            seal = other.seal;
            System.arraycopy(other.fingerprints, 0, fingerprints, 0, fingerprints.length);
        }

        private int rootOfFingerprints() {
            int root = 7;
            for (int s = 0; s < fingerprints.length; s++) {
                root = mix(root, fingerprints[s]);
            }
            return mix(root, number);
        }
    }

    /** What is stored under one VERIFY KEY: the NOTES, and what each server holds. */
    private static final class StoredFile {
        private final ServerRecord[] records;
        private final ServerRecord[] pictures;
        private final int[] notedRoots;
        private final int[] notedSeals;
        private int verifyKey;
        private int written;

        private StoredFile(int servers) {
            records = new ServerRecord[servers];
            pictures = new ServerRecord[servers];
            for (int s = 0; s < servers; s++) {
                records[s] = new ServerRecord(servers);
                pictures[s] = new ServerRecord(servers);
            }
            notedRoots = new int[LAST_NUMBER + 1];
            notedSeals = new int[LAST_NUMBER + 1];
        }

        /** The caller has seen that there is a next NUMBER. */
        private void noteNext(int root, int seal) {
            written++;
            notedRoots[written] = root;
            notedSeals[written] = seal;
        }

        private boolean isSoundAt(int s) {
            ServerRecord record = records[s];
            int number = record.number;
            if (!record.held || number < 1 || number > written) {
                return false;
            }
            return fingerprint(record.share, s) == record.fingerprints[s]
                    && record.rootOfFingerprints() == notedRoots[number]
                    && record.seal == notedSeals[number];
        }

        private boolean isSoundWith(int s, int number) {
            return records[s].number == number && isSoundAt(s);
        }
    }
}
