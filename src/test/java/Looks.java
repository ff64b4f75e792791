import java.util.ArrayList;
import java.util.List;

/**
 * Ways to look at all that a grid holds, each the answers of some calls. Most change the grid, as what
 * it holds shows by that alone: the DRAFT, say, when it is written.
 */
enum Looks {
    ANSWERS {
        @Override
        void look(ShareGrid g, List<Long> seen) {
            answers(g, seen);
        }
    },
    READS {
        @Override
        void look(ShareGrid g, List<Long> seen) {
            reads(g, seen);
        }
    },
    REPAIRS {
        @Override
        void look(ShareGrid g, List<Long> seen) {
            for (int key : KEYS) {
                seen.add((long) g.repair(Terms.verifyKey(key)));
            }
            answers(g, seen);
        }
    },
    WRITES {
        @Override
        void look(ShareGrid g, List<Long> seen) {
            writes(g, seen);
            answers(g, seen);
        }
    },
    WRITES_ON_ALL_SERVERS {
        @Override
        void look(ShareGrid g, List<Long> seen) {
            bringUp(g, 0, SERVERS, seen);
            writes(g, seen);
            reads(g, seen);
        }
    },
    WRITES_WITH_HELP_FOR_THE_FIRST {
        @Override
        void look(ShareGrid g, List<Long> seen) {
            bringUp(g, 1, SERVERS, seen);
            writes(g, seen);
        }
    },
    WRITES_WITH_HELP_FOR_THE_LAST {
        @Override
        void look(ShareGrid g, List<Long> seen) {
            bringUp(g, 0, SERVERS - 1, seen);
            writes(g, seen);
        }
    },
    NEW_FILES {
        @Override
        void look(ShareGrid g, List<Long> seen) {
            for (int key : KEYS) {
                seen.add((long) g.create(key));
            }
            writes(g, seen);
            reads(g, seen);
        }
    },
    PICTURES {
        @Override
        void look(ShareGrid g, List<Long> seen) {
            fallBacks(g, seen);
            answers(g, seen);
        }
    },
    SERVERS_ALONE {
        @Override
        void look(ShareGrid g, List<Long> seen) {
            serversAlone(g, seen);
        }
    },
    PICTURES_ON_SERVERS_ALONE {
        @Override
        void look(ShareGrid g, List<Long> seen) {
            fallBacks(g, seen);
            serversAlone(g, seen);
        }
    };

    /**
     * The grids that are looked at have files under those from 100 on. They stand in another order than
     * the files, lest a look begins with the very call whose effect it is to show.
     */
    private static final int[] KEYS = {106, 105, 104, 103, 102, 101, 100};
    /** What the grids that are looked at were made with. */
    static final int NEEDED = 2;
    static final int SERVERS = 4;

    abstract void look(ShareGrid g, List<Long> seen);

    List<Long> at(ShareGrid g) {
        List<Long> seen = new ArrayList<>();
        look(g, seen);
        return seen;
    }

    private static void answers(ShareGrid g, List<Long> seen) {
        for (int what = 0; what < 16; what++) {
            seen.add((long) g.count(what));
        }
        words(g, seen);
        for (int key : KEYS) {
            seen.add((long) g.sound(Terms.verifyKey(key)));
            seen.add((long) g.best(Terms.verifyKey(key)));
        }
        for (int f = 0; f < 6; f++) {
            for (int s = 0; s < SERVERS; s++) {
                for (int what = 0; what < 3; what++) {
                    seen.add(g.share(f, s, what));
                }
            }
        }
    }

    private static void words(ShareGrid g, List<Long> seen) {
        for (int i = 0; i < NEEDED; i++) {
            seen.add(g.word(i));
        }
    }

    private static void reads(ShareGrid g, List<Long> seen) {
        for (int key : KEYS) {
            seen.add((long) g.read(Terms.readKey(key)));
            words(g, seen);
        }
    }

    private static void writes(ShareGrid g, List<Long> seen) {
        for (int key : KEYS) {
            seen.add((long) g.write(key));
        }
    }

    private static void bringUp(ShareGrid g, int from, int to, List<Long> seen) {
        for (int s = from; s < to; s++) {
            seen.add((long) g.server(s, true, false));
        }
    }

    private static void fallBacks(ShareGrid g, List<Long> seen) {
        for (int f = 0; f < 6; f++) {
            for (int s = 0; s < SERVERS; s++) {
                seen.add((long) g.fallBack(f, s));
            }
        }
    }

    /** Which records are SOUND shows when their server alone is UP. */
    private static void serversAlone(ShareGrid g, List<Long> seen) {
        for (int alone = 0; alone < SERVERS; alone++) {
            for (int s = 0; s < SERVERS; s++) {
                seen.add((long) g.server(s, s == alone, false));
            }
            for (int key : KEYS) {
                seen.add((long) g.sound(Terms.verifyKey(key)));
            }
        }
    }
}
