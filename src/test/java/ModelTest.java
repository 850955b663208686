/** Made-up runs of 512 calls, always the same ones, beside the model. */
public final class ModelTest {
    private static final int RUNS = 600;
    private static final int CALLS = 512;
    private static final int[] WILD_INTS =
        {-1, -2, 5, 4, 20, 19, 300, 301, 9999, 10000, Integer.MIN_VALUE, Integer.MAX_VALUE};
    private static final long[] WILD_LONGS =
        {-1, 999_999_999L, 1_000_000_001L, 1L << 32, Long.MIN_VALUE, Long.MAX_VALUE};

    private final Check check;
    private final int[] stateSeen;
    private final ClerkRows program;
    private final Model model;
    private final int clerks;
    private final int entries;
    private final int hurry;
    private final int newPictures;
    private final int longestDue;
    private long seed;

    private ModelTest(Check check, int[] stateSeen, int run) {
        this.check = check;
        this.stateSeen = stateSeen;
        seed = 7919L * run + 13;
        int most = run % 7 == 0 ? 100 + below(5) : below(14) - 1;
        program = new ClerkRows(most);
        model = new Model(most);
        clerks = 2 + below(19);
        entries = 2 + below(4);
        hurry = 1 + below(12);
        // Every seventh run is for the limits on pictures: many, that are soon late.
        newPictures = run % 7 == 0 ? 300 : 25;
        longestDue = run % 7 == 0 ? 3 : 30;
    }

    public static void main(String[] args) {
        Check check = new Check("ModelTest");
        int[] stateSeen = new int[5];
        int full = 0;
        for (int run = 0; run < RUNS; run++) {
            ModelTest test = new ModelTest(check, stateSeen, run);
            for (int call = 0; call < CALLS; call++) {
                test.callOne("run " + run + " call " + call + " ");
            }
            full += test.model.pictures() == 300 ? 1 : 0;
        }
        // Runs that never come to a state would say nothing about it.
        for (int state = 0; state < stateSeen.length; state++) {
            check.due("answers come to state " + state, stateSeen[state] > 100);
        }
        check.due("some runs make 300 pictures", full > 10);
        check.end();
    }

    private int below(int bound) {
        seed = seed * 6364136223846793005L + 1442695040888963407L;
        return (int) ((seed >>> 33) % bound);
    }

    private int oftenTame(int tame) {
        return below(60) == 0 ? WILD_INTS[below(WILD_INTS.length)] : tame;
    }

    private int someClerk() {
        return oftenTame(below(clerks));
    }

    private int somePicture() {
        return oftenTame(below(model.pictures() + 2));
    }

    private long someTime() {
        if (below(80) == 0) {
            return WILD_LONGS[below(WILD_LONGS.length - 1)];
        }
        if (below(40) == 0) {
            return model.time() - 1;
        }
        return model.time() + (below(hurry) == 0 ? below(4) : 0);
    }

    private void callOne(String where) {
        int kind = below(100 + newPictures);
        if (kind < 32) {
            callGive(where);
        } else if (kind < 64) {
            callAnswer(where);
        } else if (kind < 76) {
            callOffice(where);
        } else if (kind < 80) {
            int clerk = someClerk();
            check.due(where + "leave " + clerk, program.leave(clerk), model.leave(clerk));
        } else if (kind < 84) {
            long t = model.time() + below(6) - 1;
            check.due(where + "tick " + t, program.tick(t), model.tick(t));
        } else if (kind < 100) {
            look(where, kind % 4);
        } else {
            callPicture(where);
        }
    }

    private void callPicture(String where) {
        long due = model.time() + below(longestDue + 1) - (below(20) == 0 ? 1 : 0);
        if (below(50) == 0) {
            due = WILD_LONGS[below(WILD_LONGS.length)];
        }
        int skill = oftenTame(below(10) < 7 ? 0 : below(4));
        check.due(where + "picture " + due + " " + skill,
            program.picture(due, skill), model.picture(due, skill));
    }

    private void callGive(String where) {
        int clerk = someClerk();
        long t = noGreatLeap(someTime());
        check.due(where + "give " + clerk + " " + t, program.give(clerk, t), model.give(clerk, t));
    }

    private void callAnswer(String where) {
        int clerk = someClerk();
        int held = model.heldBy(clerk);
        int picture = below(12) == 0 || held == 0 ? somePicture() : held;
        int entry = oftenTame(below(entries));
        long t = noGreatLeap(someTime());
        int state = model.answer(clerk, picture, entry, t);
        check.due(where + "answer " + clerk + " " + picture + " " + entry + " " + t,
            program.answer(clerk, picture, entry, t), state);
        if (state >= 0) {
            stateSeen[state]++;
        }
    }

    /** A right time near the last one would leave nothing to test after it. */
    private long noGreatLeap(long t) {
        return t == 999_999_999L && below(20) != 0 ? model.time() : t;
    }

    private void callOffice(String where) {
        int clerk = someClerk();
        int office = oftenTame(below(5));
        int skill = oftenTame(below(4));
        check.due(where + "office " + clerk + " " + office + " " + skill,
            program.office(clerk, office, skill), model.office(clerk, office, skill));
    }

    private void look(String where, int kind) {
        int picture = somePicture();
        if (kind == 0) {
            check.due(where + "settled " + picture, program.settled(picture), model.settled(picture));
        } else if (kind == 1) {
            check.due(where + "state " + picture, program.state(picture), model.state(picture));
        } else if (kind == 2) {
            int a = someClerk();
            int b = someClerk();
            int side = oftenTame(below(2));
            check.due(where + "agreement " + a + " " + b + " " + side,
                program.agreement(a, b, side), model.agreement(a, b, side));
        } else {
            check.due(where + "waiting", program.waiting(), model.waiting());
        }
    }
}
