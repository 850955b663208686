/** What many tests begin with; a step that does not answer as it must ends the test as failed. */
final class Scene {
    private Scene() {
    }

    static void must(String step, long got, long want) {
        if (got != want) {
            throw new IllegalStateException("the step " + step + " answered " + got + ", not " + want);
        }
    }

    /** A new object with clerk i in office i % 5, skill 3, for each i below clerks. */
    static ClerkRows withClerks(int most, int clerks) {
        ClerkRows x = new ClerkRows(most);
        for (int i = 0; i < clerks; i++) {
            must("office of clerk " + i, x.office(i, i % 5, 3), 1);
        }
        return x;
    }

    /** The same for 100 open pictures, with pictures 1 .. count, all due at that time, for every skill. */
    static ClerkRows withClerksAndPictures(int clerks, int count, long due) {
        ClerkRows x = withClerks(100, clerks);
        for (int i = 1; i <= count; i++) {
            must("picture", x.picture(due, 0), i);
        }
        return x;
    }

    /** A new object on which count pictures were made and are late already; the time is 3 at most. */
    static ClerkRows withLatePictures(int count) {
        ClerkRows x = new ClerkRows(100);
        long time = 0;
        for (int i = 1; i <= count; i++) {
            must("picture", x.picture(time, 0), i);
            if (i % 100 == 0 || i == count) {
                time++;
                x.tick(time);
            }
        }
        must("waiting", x.waiting(), 0);
        return x;
    }

    /** The clerk gets what is given at t, which must be the picture. */
    static void get(ClerkRows x, int clerk, int picture, long t) {
        must("give to clerk " + clerk, x.give(clerk, t), picture);
    }

    /** The clerk gets what is given at t, which must be the picture, and answers it: the state then. */
    static int getAndAnswer(ClerkRows x, int clerk, int picture, int entry, long t) {
        get(x, clerk, picture, t);
        return x.answer(clerk, picture, entry, t);
    }

    /** Clerks 0 and 1 get the picture, which must be given to them, and answer it: the state then. */
    static int answerTwice(ClerkRows x, int picture, int first, int second, long t) {
        must("the first answer", getAndAnswer(x, 0, picture, first, t), 0);
        return getAndAnswer(x, 1, picture, second, t);
    }
}
