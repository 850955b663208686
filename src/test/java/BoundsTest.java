/** The numbers' bounds, each from both sides: the last number that is taken, and the first that is not. */
public final class BoundsTest {
    private static final int UNKNOWN = -101, OUTSIDE = -102, STATE = -103, ROOM = -104;
    private static final long LAST_TIME = 1_000_000_000L;
    private static final Check CHECK = new Check("BoundsTest");

    /** Far from every bound; the last three would be good numbers if cut to 8 or 16 bits. */
    private static final int[] FAR = {Integer.MIN_VALUE, Integer.MAX_VALUE, 65536 + 1, 65536 * 3, -65536 + 2};
    /** Far from every bound; the last three would be good times if cut to 32 bits. */
    private static final long[] FAR_TIMES =
        {Long.MIN_VALUE, Long.MAX_VALUE, 1L << 32, (1L << 32) + 9, -(1L << 32) + 9, Long.MIN_VALUE + 9};

    public static void main(String[] args) throws IllegalAccessException {
        CHECK.runAll(BoundsTest.class);
        CHECK.end();
    }

    private static void due(String call, long got, long want) {
        CHECK.due(call, got, want);
    }

    // "PICTURES 1, 2, .. (300 at most)"

    static void pictureTheFirstIs1() {
        due("picture", new ClerkRows(5).picture(9, 0), 1);
    }

    static void pictureTheNextIs2() {
        ClerkRows x = Scene.withClerksAndPictures(0, 1, 9);
        due("picture", x.picture(9, 0), 2);
    }

    static void pictureThe300thIsMade() {
        ClerkRows x = Scene.withLatePictures(299);
        due("picture", x.picture(9, 0), 300);
    }

    static void pictureThe301stIsRoom() {
        ClerkRows x = Scene.withLatePictures(300);
        due("picture", x.picture(9, 0), ROOM);
    }

    private static void isNoPicture(ClerkRows x, int picture) {
        due("answer to " + picture, x.answer(0, picture, 5, 9), UNKNOWN);
        due("settled of " + picture, x.settled(picture), UNKNOWN);
        due("state of " + picture, x.state(picture), UNKNOWN);
    }

    static void picture0IsUnknown() {
        isNoPicture(Scene.withClerksAndPictures(1, 2, 9), 0);
    }

    static void pictureMinus1IsUnknown() {
        isNoPicture(Scene.withClerksAndPictures(1, 2, 9), -1);
    }

    static void picture1IsUnknownBeforeItIsMade() {
        isNoPicture(Scene.withClerks(5, 1), 1);
    }

    static void picture1IsKnown() {
        ClerkRows x = Scene.withClerksAndPictures(1, 1, 9);
        due("settled", x.settled(1), -1);
        due("state", x.state(1), 0);
        due("answer", Scene.getAndAnswer(x, 0, 1, 5, 9), 0);
    }

    static void pictureLastMadeIsKnown() {
        ClerkRows x = Scene.withClerksAndPictures(1, 7, 9);
        due("settled", x.settled(7), -1);
        due("state", x.state(7), 0);
        due("answer", x.answer(0, 7, 5, 9), STATE);
    }

    static void pictureAfterTheLastMadeIsUnknown() {
        isNoPicture(Scene.withClerksAndPictures(1, 7, 9), 8);
    }

    static void picture300IsUnknownBeforeItIsMade() {
        isNoPicture(Scene.withLatePictures(299), 300);
    }

    static void picture300IsKnown() {
        ClerkRows x = Scene.withLatePictures(299);
        due("office", x.office(0, 0, 0), 1);
        due("picture", x.picture(9, 0), 300);
        due("settled", x.settled(300), -1);
        due("state", x.state(300), 0);
        due("answer", Scene.getAndAnswer(x, 0, 300, 5, 9), 0);
    }

    static void picture301IsUnknown() {
        isNoPicture(Scene.withLatePictures(300), 301);
    }

    static void picturesFarOffAreUnknown() {
        ClerkRows x = Scene.withLatePictures(300);
        for (int far : FAR) {
            isNoPicture(x, far);
        }
    }

    // PICTURES have "a skill 0 .. 3"

    static void pictureSkillMinus1IsOutside() {
        due("picture", new ClerkRows(5).picture(9, -1), OUTSIDE);
    }

    static void pictureSkill0IsTaken() {
        due("picture", new ClerkRows(5).picture(9, 0), 1);
    }

    static void pictureSkill3IsTaken() {
        due("picture", new ClerkRows(5).picture(9, 3), 1);
    }

    static void pictureSkill4IsOutside() {
        due("picture", new ClerkRows(5).picture(9, 4), OUTSIDE);
    }

    static void pictureSkillsFarOffAreOutside() {
        ClerkRows x = new ClerkRows(5);
        for (int far : FAR) {
            due("picture of skill " + far, x.picture(9, far), OUTSIDE);
        }
    }

    // "CLERKS 0 .. 19"

    private static void isNoClerk(int clerk) {
        ClerkRows x = Scene.withClerksAndPictures(20, 1, 9);
        due("office of " + clerk, x.office(clerk, 0, 0), UNKNOWN);
        due("give to " + clerk, x.give(clerk, 0), UNKNOWN);
        due("answer of " + clerk, x.answer(clerk, 1, 5, 0), UNKNOWN);
        due("leave of " + clerk, x.leave(clerk), UNKNOWN);
        due("agreement of " + clerk, x.agreement(clerk, 7, 0), UNKNOWN);
        due("agreement with " + clerk, x.agreement(7, clerk, 1), UNKNOWN);
    }

    private static void isClerk(int clerk) {
        ClerkRows x = Scene.withClerksAndPictures(0, 1, 9);
        due("office of " + clerk, x.office(clerk, 0, 0), 1);
        due("give to " + clerk, x.give(clerk, 0), 1);
        due("answer of " + clerk, x.answer(clerk, 1, 5, 0), 0);
        due("leave of " + clerk, x.leave(clerk), 0);
        due("agreement of " + clerk, x.agreement(clerk, 7, 0), 0);
        due("agreement with " + clerk, x.agreement(7, clerk, 1), 0);
    }

    static void clerkMinus1IsUnknown() {
        isNoClerk(-1);
    }

    static void clerk0IsKnown() {
        isClerk(0);
    }

    static void clerk19IsKnown() {
        isClerk(19);
    }

    static void clerk20IsUnknown() {
        isNoClerk(20);
    }

    static void clerksFarOffAreUnknown() {
        for (int far : FAR) {
            isNoClerk(far);
        }
    }

    // CLERKS have "an office 0 .. 4"

    static void officeMinus1IsOutside() {
        due("office", new ClerkRows(5).office(0, -1, 0), OUTSIDE);
    }

    static void office0IsTaken() {
        due("office", new ClerkRows(5).office(0, 0, 0), 1);
    }

    static void office4IsTaken() {
        due("office", new ClerkRows(5).office(0, 4, 0), 1);
    }

    static void office5IsOutside() {
        due("office", new ClerkRows(5).office(0, 5, 0), OUTSIDE);
    }

    static void officesFarOffAreOutside() {
        ClerkRows x = new ClerkRows(5);
        for (int far : FAR) {
            due("office " + far, x.office(0, far, 0), OUTSIDE);
        }
    }

    // CLERKS have "a skill 0 .. 3"

    static void clerkSkillMinus1IsOutside() {
        due("office", new ClerkRows(5).office(0, 0, -1), OUTSIDE);
    }

    static void clerkSkill0IsTaken() {
        due("office", new ClerkRows(5).office(0, 0, 0), 1);
    }

    static void clerkSkill3IsTaken() {
        due("office", new ClerkRows(5).office(0, 0, 3), 1);
    }

    static void clerkSkill4IsOutside() {
        due("office", new ClerkRows(5).office(0, 0, 4), OUTSIDE);
    }

    static void clerkSkillsFarOffAreOutside() {
        ClerkRows x = new ClerkRows(5);
        for (int far : FAR) {
            due("skill " + far, x.office(0, 0, far), OUTSIDE);
        }
    }

    // "TIME is 0 at first"

    static void timeMinus1IsBelowTheFirst() {
        ClerkRows x = Scene.withClerks(5, 1);
        due("tick", x.tick(-1), OUTSIDE);
        due("give", x.give(0, -1), OUTSIDE);
        due("picture", x.picture(-1, 0), OUTSIDE);
    }

    static void time0IsTheFirst() {
        due("tick", new ClerkRows(5).tick(0), 0);
        due("give", Scene.withClerks(5, 1).give(0, 0), 0);
        due("picture", new ClerkRows(5).picture(0, 0), 1);
    }

    // "each call with a t lets it pass to t (not below it, ..; else OUTSIDE)"

    /** Clerk 0 holds picture 1 and clerk 1 none; both pictures are due at the last time. */
    private static ClerkRows atTime(long t) {
        ClerkRows x = Scene.withClerksAndPictures(2, 2, LAST_TIME);
        Scene.get(x, 0, 1, t);
        return x;
    }

    static void tickAtTheTimeItself() {
        due("tick", atTime(7).tick(7), 0);
    }

    static void tickBelowTheTime() {
        due("tick", atTime(7).tick(6), OUTSIDE);
    }

    static void giveAtTheTimeItself() {
        due("give", atTime(7).give(1, 7), 1);
    }

    static void giveBelowTheTime() {
        due("give", atTime(7).give(1, 6), OUTSIDE);
    }

    static void answerAtTheTimeItself() {
        due("answer", atTime(7).answer(0, 1, 5, 7), 0);
    }

    static void answerBelowTheTime() {
        due("answer", atTime(7).answer(0, 1, 5, 6), OUTSIDE);
    }

    private static void timeIs(ClerkRows x, long t) {
        due("one below the time", x.tick(t - 1), OUTSIDE);
        due("the time", x.tick(t), 0);
    }

    static void tickLetsTimePass() {
        ClerkRows x = atTime(7);
        due("tick", x.tick(20), 0);
        timeIs(x, 20);
    }

    static void giveLetsTimePass() {
        ClerkRows x = atTime(7);
        due("give", x.give(1, 20), 1);
        timeIs(x, 20);
    }

    static void giveOfNoneLetsTimePass() {
        ClerkRows x = Scene.withClerks(5, 1);
        due("give", x.give(0, 20), 0);
        timeIs(x, 20);
    }

    static void answerLetsTimePass() {
        ClerkRows x = atTime(7);
        due("answer", x.answer(0, 1, 5, 20), 0);
        timeIs(x, 20);
    }

    static void callsWithoutATLetNoTimePass() {
        ClerkRows x = atTime(7);
        due("picture", x.picture(20, 0), 3);
        due("office", x.office(1, 4, 3), 1);
        due("leave", x.leave(0), 1);
        due("waiting", x.waiting(), 3);
        timeIs(x, 7);
    }

    // "10^9 at most; else OUTSIDE"

    static void tickAtTheLastTime() {
        due("tick", atTime(7).tick(LAST_TIME), 0);
    }

    static void tickAboveTheLastTime() {
        due("tick", atTime(7).tick(LAST_TIME + 1), OUTSIDE);
    }

    static void giveAtTheLastTime() {
        due("give", atTime(7).give(1, LAST_TIME), 1);
    }

    static void giveAboveTheLastTime() {
        due("give", atTime(7).give(1, LAST_TIME + 1), OUTSIDE);
    }

    static void answerAtTheLastTime() {
        due("answer", atTime(7).answer(0, 1, 5, LAST_TIME), 0);
    }

    static void answerAboveTheLastTime() {
        due("answer", atTime(7).answer(0, 1, 5, LAST_TIME + 1), OUTSIDE);
    }

    static void timeStaysAtTheLast() {
        ClerkRows x = atTime(7);
        due("tick", x.tick(LAST_TIME), 0);
        due("below it", x.give(1, LAST_TIME - 1), OUTSIDE);
        due("at it", x.give(1, LAST_TIME), 1);
        due("above it", x.answer(0, 1, 5, LAST_TIME + 1), OUTSIDE);
    }

    static void timesThatWrapAroundAreOutside() {
        ClerkRows x = atTime(7);
        for (long far : FAR_TIMES) {
            due("tick " + far, x.tick(far), OUTSIDE);
            due("give " + far, x.give(1, far), OUTSIDE);
            due("answer " + far, x.answer(0, 1, 5, far), OUTSIDE);
            due("picture " + far, x.picture(far, 0), OUTSIDE);
        }
    }

    // "AN ANSWER is an entry 1 .. 9999, or 0 (it cannot be read)"

    static void entryMinus1IsOutside() {
        due("answer", atTime(7).answer(0, 1, -1, 7), OUTSIDE);
    }

    static void entry0CannotBeRead() {
        ClerkRows x = Scene.withClerksAndPictures(2, 1, 9);
        due("answer", Scene.answerTwice(x, 1, 0, 0, 0), 3);
        due("settled", x.settled(1), 0);
    }

    static void entry1IsTaken() {
        ClerkRows x = Scene.withClerksAndPictures(2, 1, 9);
        due("answer", Scene.answerTwice(x, 1, 1, 1, 0), 2);
        due("settled", x.settled(1), 1);
    }

    static void entry9999IsTaken() {
        ClerkRows x = Scene.withClerksAndPictures(2, 1, 9);
        due("answer", Scene.answerTwice(x, 1, 9999, 9999, 0), 2);
        due("settled", x.settled(1), 9999);
    }

    static void entry10000IsOutside() {
        due("answer", atTime(7).answer(0, 1, 10000, 7), OUTSIDE);
    }

    static void entriesFarOffAreOutside() {
        ClerkRows x = atTime(7);
        due("answer of -2", x.answer(0, 1, -2, 7), OUTSIDE);
        for (int far : FAR) {
            due("answer of " + far, x.answer(0, 1, far, 7), OUTSIDE);
        }
    }

    // "So many pictures, brought to 1 .. 100, may have not ended at a time"

    private static void placesAre(int most, int places) {
        ClerkRows x = new ClerkRows(most);
        for (int i = 1; i <= places; i++) {
            due("picture of most " + most, x.picture(9, 0), i);
        }
        due("one more of most " + most, x.picture(9, 0), 0);
    }

    static void most0Is1() {
        placesAre(0, 1);
    }

    static void most1Is1() {
        placesAre(1, 1);
    }

    static void most2Is2() {
        placesAre(2, 2);
    }

    static void most99Is99() {
        placesAre(99, 99);
    }

    static void most100Is100() {
        placesAre(100, 100);
    }

    static void most101Is100() {
        placesAre(101, 100);
    }

    static void mostFarBelowIs1() {
        placesAre(-1, 1);
        placesAre(-100, 1);
        placesAre(-65536 + 2, 1);
        placesAre(Integer.MIN_VALUE, 1);
    }

    static void mostFarAboveIs100() {
        placesAre(300, 100);
        placesAre(65536 + 1, 100);
        placesAre(Integer.MAX_VALUE, 100);
    }

    // "OUTSIDE (due is below the time, or above 10^9; ..)"

    static void dueBelowTheTimeIsOutside() {
        due("picture", atTime(7).picture(6, 0), OUTSIDE);
    }

    static void dueAtTheTimeIsTaken() {
        due("picture", atTime(7).picture(7, 0), 3);
    }

    static void dueAtTheLastTimeIsTaken() {
        due("picture", atTime(7).picture(LAST_TIME, 0), 3);
    }

    static void dueAboveTheLastTimeIsOutside() {
        due("picture", atTime(7).picture(LAST_TIME + 1, 0), OUTSIDE);
    }

    // "(side = 1)", "(0)", "OUTSIDE (side; both are the same)"

    /** Clerks 0 and 1 both answered pictures 1 and 2, and only picture 1 alike. */
    private static ClerkRows answeredByBoth() {
        ClerkRows x = Scene.withClerksAndPictures(2, 2, 9);
        Scene.must("alike", Scene.answerTwice(x, 1, 5, 5, 0), 2);
        Scene.must("not alike", Scene.answerTwice(x, 2, 5, 6, 0), 0);
        return x;
    }

    static void sideMinus1IsOutside() {
        due("agreement", answeredByBoth().agreement(0, 1, -1), OUTSIDE);
    }

    static void side0CountsThoseAlike() {
        due("agreement", answeredByBoth().agreement(0, 1, 0), 1);
    }

    static void side1CountsAll() {
        due("agreement", answeredByBoth().agreement(0, 1, 1), 2);
    }

    static void side2IsOutside() {
        due("agreement", answeredByBoth().agreement(0, 1, 2), OUTSIDE);
    }

    static void sidesFarOffAreOutside() {
        ClerkRows x = answeredByBoth();
        for (int far : FAR) {
            due("agreement on side " + far, x.agreement(0, 1, far), OUTSIDE);
        }
    }

    static void agreementWithOneselfIsOutside() {
        ClerkRows x = answeredByBoth();
        for (int clerk = 0; clerk < 20; clerk++) {
            due("agreement of " + clerk, x.agreement(clerk, clerk, 0), OUTSIDE);
            due("agreement of " + clerk, x.agreement(clerk, clerk, 1), OUTSIDE);
        }
    }

    static void agreementOfTwoClerksIsTold() {
        ClerkRows x = answeredByBoth();
        due("agreement", x.agreement(1, 0, 1), 2);
        for (int clerk = 1; clerk < 20; clerk++) {
            due("agreement with " + clerk, x.agreement(clerk - 1, clerk, 0), clerk == 1 ? 1 : 0);
        }
    }
}
