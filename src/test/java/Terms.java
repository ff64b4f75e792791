/**
 * The document's terms, written once more in another way than in the program, and the sums that
 * someone who forges a record would do.
 */
final class Terms {
    private Terms() {
    }

    static int mix(int a, int b) {
        long inner = (a & 0xffffffffL) ^ ((b * 40503L + 12345L) & 0xffffffffL);
        long product = inner * 1640531527L & 0xffffffffL;
        return (int) (product ^ (product >> 15));
    }

    static int readKey(int writeKey) {
        return mix(writeKey, 1);
    }

    static int verifyKey(int writeKey) {
        return mix(mix(writeKey, 1), 2);
    }

    /** Multiplies two bytes as polynomials, and takes the remainder afterwards. */
    static int times(int a, int b) {
        int product = 0;
        for (int j = 0; j < 8; j++) {
            if ((b & 1 << j) != 0) {
                product ^= a << j;
            }
        }
        for (int degree = 14; degree >= 8; degree--) {
            if ((product & 1 << degree) != 0) {
                product ^= 0b1_0001_1101 << degree - 8;
            }
        }
        return product;
    }

    static int power(int x, int exponent) {
        int product = 1;
        for (int i = 0; i < exponent; i++) {
            product = times(product, x);
        }
        return product;
    }

    static int byteOf(int word, int b) {
        return word >>> 8 * b & 255;
    }

    static int[] cipher(int readKey, int number, int[] words) {
        int[] cipherWords = new int[words.length];
        for (int i = 0; i < words.length; i++) {
            cipherWords[i] = words[i] ^ mix(readKey, number * 8 + i);
        }
        return cipherWords;
    }

    static int share(int[] cipherWords, int s) {
        int share = 0;
        for (int b = 0; b < 4; b++) {
            int sum = 0;
            for (int i = 0; i < cipherWords.length; i++) {
                sum ^= times(byteOf(cipherWords[i], b), power(s + 1, i));
            }
            share |= sum << 8 * b;
        }
        return share;
    }

    static int[] fingerprints(int[] cipherWords, int servers) {
        int[] fingerprints = new int[servers];
        for (int s = 0; s < servers; s++) {
            fingerprints[s] = mix(share(cipherWords, s), s + 100);
        }
        return fingerprints;
    }

    static int root(int[] fingerprints, int number) {
        int r = 7;
        for (int fingerprint : fingerprints) {
            r = mix(r, fingerprint);
        }
        return mix(r, number);
    }

    static int seal(int root, int writeKey) {
        return mix(root, writeKey) ^ writeKey;
    }

    /** The CIPHER WORDS with which these are the shares at these places, by elimination. */
    static int[] decode(int[] places, int[] shares) {
        int k = places.length;
        int[] cipherWords = new int[k];
        for (int b = 0; b < 4; b++) {
            int[][] rows = new int[k][k + 1];
            for (int j = 0; j < k; j++) {
                for (int i = 0; i < k; i++) {
                    rows[j][i] = power(places[j] + 1, i);
                }
                rows[j][k] = byteOf(shares[j], b);
            }
            eliminate(rows);
            for (int i = 0; i < k; i++) {
                cipherWords[i] |= rows[i][k] << 8 * b;
            }
        }
        return cipherWords;
    }

    private static void eliminate(int[][] rows) {
        int k = rows.length;
        for (int i = 0; i < k; i++) {
            int pivot = i;
            while (rows[pivot][i] == 0) {
                pivot++;
            }
            int[] row = rows[pivot];
            rows[pivot] = rows[i];
            rows[i] = row;
            int inverse = inverse(row[i]);
            for (int c = 0; c <= k; c++) {
                row[c] = times(row[c], inverse);
            }
            for (int j = 0; j < k; j++) {
                int factor = rows[j][i];
                for (int c = 0; j != i && c <= k; c++) {
                    rows[j][c] ^= times(factor, row[c]);
                }
            }
        }
    }

    private static int inverse(int x) {
        for (int y = 1; y < 256; y++) {
            if (times(x, y) == 1) {
                return y;
            }
        }
        throw new IllegalArgumentException("no inverse of " + x);
    }

    /** The a with which mix(a, b) is the outcome. */
    static int firstOfMix(int b, int outcome) {
        return unshifted(outcome) * oddInverse(1640531527) ^ (b * 40503 + 12345);
    }

    /** The b with which mix(a, b) is the outcome. */
    static int secondOfMix(int a, int outcome) {
        return ((unshifted(outcome) * oddInverse(1640531527) ^ a) - 12345) * oddInverse(40503);
    }

    private static int unshifted(int outcome) {
        int x = outcome;
        for (int i = 0; i < 3; i++) {
            x = outcome ^ (x >>> 15);
        }
        return x;
    }

    private static int oddInverse(int x) {
        int y = x;
        for (int i = 0; i < 6; i++) {
            y *= 2 - x * y;
        }
        return y;
    }

    /** What the fingerprint of place q must be for the ROOT to be the wanted one. */
    static int fingerprintForRoot(int[] fingerprints, int number, int q, int root) {
        int before = 7;
        for (int p = 0; p < q; p++) {
            before = mix(before, fingerprints[p]);
        }
        int after = firstOfMix(number, root);
        for (int p = fingerprints.length - 1; p > q; p--) {
            after = firstOfMix(fingerprints[p], after);
        }
        return secondOfMix(before, after);
    }
}
