import java.util.ArrayList;
import java.util.List;

/** Refused calls: which refusal of several, that it comes before an answer of 0, that nothing changes. */
public final class RefusalsTest {
    private static final int UNKNOWN = -101, OUTSIDE = -102, STATE = -103, ROOM = -104;
    private static final long LAST_TIME = 1_000_000_000L;
    private static final Check CHECK = new Check("RefusalsTest");

    private interface Call {
        long on(ClerkRows x);
    }

    public static void main(String[] args) throws IllegalAccessException {
        CHECK.runAll(RefusalsTest.class);
        CHECK.end();
    }

    private static void due(String call, long got, long want) {
        CHECK.due(call, got, want);
    }

    // "REFUSALS are answers, of several the first one here: UNKNOWN .., OUTSIDE .., STATE .., ROOM."

    static void pictureOutsideComesBeforeRoom() {
        ClerkRows x = Scene.withLatePictures(300);
        due("ROOM alone", x.picture(9, 3), ROOM);
        due("due too small", x.picture(2, 3), OUTSIDE);
        due("due too large", x.picture(LAST_TIME + 1, 3), OUTSIDE);
        due("skill too small", x.picture(9, -1), OUTSIDE);
        due("skill too large", x.picture(9, 4), OUTSIDE);
    }

    static void giveUnknownComesBeforeOutside() {
        ClerkRows x = Scene.withClerks(5, 1);
        due("OUTSIDE alone", x.give(0, -1), OUTSIDE);
        due("t too small", x.give(-1, -1), UNKNOWN);
        due("t too large", x.give(20, LAST_TIME + 1), UNKNOWN);
    }

    static void giveOutsideComesBeforeStateOfOneWhoIsOut() {
        ClerkRows x = Scene.withClerks(5, 1);
        due("STATE alone", x.give(1, 0), STATE);
        due("t too small", x.give(1, -1), OUTSIDE);
        due("t too large", x.give(1, LAST_TIME + 1), OUTSIDE);
    }

    static void giveOutsideComesBeforeStateOfOneWhoHolds() {
        ClerkRows x = Scene.withClerksAndPictures(1, 2, 9);
        Scene.get(x, 0, 1, 5);
        due("STATE alone", x.give(0, 5), STATE);
        due("t too small", x.give(0, 4), OUTSIDE);
        due("t too large", x.give(0, LAST_TIME + 1), OUTSIDE);
    }

    /** Clerk 0 holds picture 1 at time 5 and clerk 1 none; clerk 2 is out; picture 2 is free. */
    private static ClerkRows forAnswers() {
        ClerkRows x = Scene.withClerksAndPictures(2, 2, 9);
        Scene.get(x, 0, 1, 5);
        return x;
    }

    static void answerUnknownComesBeforeOutside() {
        ClerkRows x = forAnswers();
        due("no such clerk, entry too small", x.answer(-1, 1, -1, 5), UNKNOWN);
        due("no such clerk, entry too large", x.answer(20, 1, 10000, 5), UNKNOWN);
        due("no such clerk, t too small", x.answer(20, 1, 5, 4), UNKNOWN);
        due("no such clerk, t too large", x.answer(-1, 1, 5, LAST_TIME + 1), UNKNOWN);
        due("no such picture, entry too small", x.answer(0, 0, -1, 5), UNKNOWN);
        due("no such picture, entry too large", x.answer(0, 3, 10000, 5), UNKNOWN);
        due("no such picture, t too small", x.answer(0, 3, 5, 4), UNKNOWN);
        due("no such picture, t too large", x.answer(0, 0, 5, LAST_TIME + 1), UNKNOWN);
        due("neither, and all outside", x.answer(20, 3, 10000, 4), UNKNOWN);
    }

    static void answerUnknownComesBeforeState() {
        ClerkRows x = forAnswers();
        due("no such picture, who is out", x.answer(2, 3, 5, 5), UNKNOWN);
        due("no such picture, who holds none", x.answer(1, 3, 5, 5), UNKNOWN);
        due("no such picture, who holds another", x.answer(0, 3, 5, 5), UNKNOWN);
        due("no such clerk, a picture that nobody holds", x.answer(20, 2, 5, 5), UNKNOWN);
    }

    static void answerOutsideComesBeforeState() {
        ClerkRows x = forAnswers();
        int[] clerks = {2, 1, 0};
        for (int clerk : clerks) {
            due("STATE alone", x.answer(clerk, 2, 5, 5), STATE);
            due("entry too small", x.answer(clerk, 2, -1, 5), OUTSIDE);
            due("entry too large", x.answer(clerk, 2, 10000, 5), OUTSIDE);
            due("t too small", x.answer(clerk, 2, 5, 4), OUTSIDE);
            due("t too large", x.answer(clerk, 2, 5, LAST_TIME + 1), OUTSIDE);
        }
    }

    static void answerOutsideOfOneWhoHoldsIt() {
        ClerkRows x = forAnswers();
        due("entry too small", x.answer(0, 1, -1, 5), OUTSIDE);
        due("entry too large", x.answer(0, 1, 10000, 5), OUTSIDE);
        due("t too small", x.answer(0, 1, 5, 4), OUTSIDE);
        due("t too large", x.answer(0, 1, 5, LAST_TIME + 1), OUTSIDE);
        due("none of these", x.answer(0, 1, 5, 5), 0);
    }

    static void officeUnknownComesBeforeOutside() {
        ClerkRows x = new ClerkRows(5);
        due("office too small", x.office(-1, -1, 0), UNKNOWN);
        due("office too large", x.office(20, 5, 0), UNKNOWN);
        due("skill too small", x.office(20, 0, -1), UNKNOWN);
        due("skill too large", x.office(-1, 0, 4), UNKNOWN);
    }

    static void agreementUnknownComesBeforeOutside() {
        ClerkRows x = new ClerkRows(5);
        due("the first, side too small", x.agreement(-1, 0, -1), UNKNOWN);
        due("the first, side too large", x.agreement(20, 0, 2), UNKNOWN);
        due("the second, side too small", x.agreement(0, 20, -1), UNKNOWN);
        due("the second, side too large", x.agreement(0, -1, 2), UNKNOWN);
        due("both the same", x.agreement(20, 20, 0), UNKNOWN);
        due("both the same", x.agreement(-1, -1, 1), UNKNOWN);
    }

    // "They come before an answer of 0."

    static void pictureOutsideComesBefore0() {
        ClerkRows x = new ClerkRows(1);
        due("picture", x.picture(9, 0), 1);
        due("tick", x.tick(5), 0);
        due("0 alone", x.picture(9, 0), 0);
        due("due too small", x.picture(4, 0), OUTSIDE);
        due("due too large", x.picture(LAST_TIME + 1, 0), OUTSIDE);
        due("skill too small", x.picture(9, -1), OUTSIDE);
        due("skill too large", x.picture(9, 4), OUTSIDE);
    }

    static void pictureRoomComesBefore0() {
        ClerkRows x = new ClerkRows(100);
        for (int i = 1; i <= 300; i++) {
            Scene.must("picture", x.picture((i - 1) / 100, 0), i);
            if (i == 100 || i == 200) {
                due("0 alone", x.picture(9, 0), 0);
                Scene.must("tick", x.tick(i / 100), 100);
            }
        }
        due("waiting", x.waiting(), 100);
        due("picture", x.picture(9, 0), ROOM);
    }

    static void giveRefusalsComeBefore0() {
        ClerkRows x = Scene.withClerks(5, 1);
        due("0 alone", x.give(0, 0), 0);
        due("no such clerk", x.give(20, 0), UNKNOWN);
        due("t", x.give(0, -1), OUTSIDE);
        due("who is out", x.give(1, 0), STATE);
        due("picture", x.picture(9, 0), 1);
        Scene.get(x, 0, 1, 0);
        due("who holds the only one", x.give(0, 0), STATE);
    }

    static void giveOfWhoHoldsOneThatIsLateThenIsRefused() {
        ClerkRows x = Scene.withClerksAndPictures(1, 1, 9);
        Scene.get(x, 0, 1, 0);
        due("give", x.give(0, 10), STATE);
        due("state", x.state(1), 0);
    }

    static void answerRefusalsComeBeforeAStateOf0() {
        ClerkRows x = Scene.withClerksAndPictures(2, 1, 9);
        due("picture 1 waits", x.state(1), 0);
        due("who is out", x.answer(2, 1, 5, 0), STATE);
        due("who holds none", x.answer(1, 1, 5, 0), STATE);
    }

    static void leaveRefusalsComeBefore0() {
        ClerkRows x = Scene.withClerks(5, 1);
        due("no such clerk", x.leave(20), UNKNOWN);
        due("who never came", x.leave(1), STATE);
        due("0 alone", x.leave(0), 0);
        due("who left", x.leave(0), STATE);
    }

    static void tickRefusalsComeBefore0() {
        ClerkRows x = new ClerkRows(5);
        due("0 alone", x.tick(5), 0);
        due("t too small", x.tick(4), OUTSIDE);
        due("t too large", x.tick(LAST_TIME + 1), OUTSIDE);
    }

    static void agreementRefusalsComeBefore0() {
        ClerkRows x = new ClerkRows(5);
        due("0 alone", x.agreement(0, 1, 0), 0);
        due("no such clerk", x.agreement(0, 20, 0), UNKNOWN);
        due("side", x.agreement(0, 1, 2), OUTSIDE);
        due("both are the same", x.agreement(0, 0, 0), OUTSIDE);
    }

    // "A call that is refused changes nothing, and lets no time pass."

    /**
     * A busy object at time 10. Pictures: 1 settled; 2 unreadable; 3 late by a give since the last tick, and
     * held by clerk 3; 4 held by clerks 0 and 1; 5 with two answers that differ; 6, due now, answered by
     * clerk 4 and held by clerk 2; 7, for skill 3 alone, with nobody. Clerk 5 holds none, clerk 6 left, and
     * the others never came.
     */
    private static ClerkRows busy() {
        ClerkRows x = Scene.withClerks(5, 7);
        Scene.must("picture", x.picture(11, 0), 1);
        Scene.must("settled", Scene.answerTwice(x, 1, 5, 5, 0), 2);
        Scene.must("picture", x.picture(11, 0), 2);
        Scene.must("unreadable", Scene.answerTwice(x, 2, 0, 0, 0), 3);
        Scene.must("tick", x.tick(1), 0);
        Scene.must("picture", x.picture(9, 0), 3);
        Scene.get(x, 3, 3, 1);
        Scene.must("picture", x.picture(12, 0), 4);
        Scene.must("leave", x.leave(6), 0);
        Scene.get(x, 0, 4, 10);
        Scene.get(x, 1, 4, 10);
        Scene.must("picture", x.picture(11, 0), 5);
        Scene.must("first", Scene.getAndAnswer(x, 4, 5, 5, 10), 0);
        Scene.must("second", Scene.getAndAnswer(x, 2, 5, 6, 10), 0);
        Scene.must("picture", x.picture(10, 0), 6);
        Scene.must("first", Scene.getAndAnswer(x, 4, 6, 7, 10), 0);
        Scene.get(x, 2, 6, 10);
        Scene.must("picture", x.picture(12, 3), 7);
        return x;
    }

    /**
     * What the calls of the face answer one after another on the busy object: reading first, then calls that
     * show the rest. Those that are refused come last, since what they might change would hide the rest.
     */
    private static List<Long> lookAtAll(ClerkRows x) {
        List<Long> seen = new ArrayList<>();
        read(x, seen);
        seen.add((long) x.picture(10, 0));
        seen.add((long) x.tick(10));
        // Clerk 5 comes next to clerk 0, whose office bars the same pictures.
        int[] order = {0, 5, 1, 2, 3, 4};
        int[] held = {4, 4, 6, 3, 0, 0};
        for (int clerk : order) {
            lookAtHand(x, clerk, held[clerk], seen);
        }
        seen.add((long) x.office(6, 1, 3));
        for (int clerk = 0; clerk < 6; clerk++) {
            seen.add((long) x.office(clerk, clerk % 5, 3));
            seen.add((long) x.leave(clerk));
        }
        seen.add((long) x.leave(7));
        seen.add((long) x.tick(9));
        seen.add((long) x.state(9));
        seen.add((long) x.tick(11));
        seen.add((long) x.tick(LAST_TIME));
        return seen;
    }

    private static void read(ClerkRows x, List<Long> seen) {
        seen.add((long) x.waiting());
        for (int picture = 1; picture <= 7; picture++) {
            seen.add((long) x.state(picture));
            seen.add((long) x.settled(picture));
        }
        for (int a = 0; a < 8; a++) {
            for (int b = 0; b < a; b++) {
                seen.add(x.agreement(a, b, 0));
                seen.add(x.agreement(a, b, 1));
            }
        }
    }

    /** Whether the clerk holds that picture (0 for none), and which ones are free for the clerk after it. */
    private static void lookAtHand(ClerkRows x, int clerk, int held, List<Long> seen) {
        if (held > 0) {
            seen.add((long) x.answer(clerk, held, 100 + clerk, 10));
        }
        for (int i = 0; i < 4; i++) {
            int given = x.give(clerk, 10);
            seen.add((long) given);
            if (given > 0) {
                seen.add((long) x.answer(clerk, given, 100 + clerk, 10));
            }
        }
    }

    private static void changesNothing(String name, int refusal, Call call) {
        ClerkRows x = busy();
        due(name, call.on(x), refusal);
        List<Long> got = lookAtAll(x);
        List<Long> want = lookAtAll(busy());
        due("how many calls were made after " + name, got.size(), want.size());
        for (int i = 0; i < Math.min(got.size(), want.size()); i++) {
            due("call " + i + " after " + name, got.get(i), want.get(i));
        }
    }

    static void refusedPictureChangesNothing() {
        changesNothing("picture of a due time too small", OUTSIDE, x -> x.picture(9, 0));
        changesNothing("picture of a due time too large", OUTSIDE, x -> x.picture(LAST_TIME + 1, 0));
        changesNothing("picture of a skill too small", OUTSIDE, x -> x.picture(20, -1));
        changesNothing("picture of a skill too large", OUTSIDE, x -> x.picture(20, 4));
    }

    static void refusedGiveChangesNothing() {
        changesNothing("give to no clerk", UNKNOWN, x -> x.give(20, 20));
        changesNothing("give to no clerk", UNKNOWN, x -> x.give(-1, 20));
        changesNothing("give at a time too small", OUTSIDE, x -> x.give(5, 9));
        changesNothing("give at a time too large", OUTSIDE, x -> x.give(5, LAST_TIME + 1));
        changesNothing("give to who left", STATE, x -> x.give(6, 20));
        changesNothing("give to who never came", STATE, x -> x.give(7, 20));
        changesNothing("give to who holds one", STATE, x -> x.give(0, 20));
        changesNothing("give to who holds a late one", STATE, x -> x.give(3, 20));
    }

    static void refusedAnswerChangesNothing() {
        changesNothing("answer of no clerk", UNKNOWN, x -> x.answer(20, 4, 8, 20));
        changesNothing("answer to no picture", UNKNOWN, x -> x.answer(0, 8, 8, 20));
        changesNothing("answer too small", OUTSIDE, x -> x.answer(0, 4, -1, 20));
        changesNothing("answer too large", OUTSIDE, x -> x.answer(0, 4, 10000, 20));
        changesNothing("answer at a time too small", OUTSIDE, x -> x.answer(0, 4, 8, 9));
        changesNothing("answer at a time too large", OUTSIDE, x -> x.answer(0, 4, 8, LAST_TIME + 1));
        changesNothing("answer of who left", STATE, x -> x.answer(6, 7, 8, 20));
        changesNothing("answer of who never came", STATE, x -> x.answer(7, 7, 8, 20));
        changesNothing("answer of who holds none", STATE, x -> x.answer(5, 7, 8, 20));
        changesNothing("answer of who holds another", STATE, x -> x.answer(0, 6, 8, 20));
        changesNothing("answer of who answered it", STATE, x -> x.answer(4, 5, 6, 20));
        changesNothing("answer to an ended one that is not held", STATE, x -> x.answer(0, 1, 5, 20));
    }

    static void refusedOfficeChangesNothing() {
        changesNothing("office of no clerk", UNKNOWN, x -> x.office(20, 2, 2));
        changesNothing("office too small", OUTSIDE, x -> x.office(0, -1, 2));
        changesNothing("office too large", OUTSIDE, x -> x.office(0, 5, 2));
        changesNothing("office of a skill too small", OUTSIDE, x -> x.office(0, 2, -1));
        changesNothing("office of a skill too large", OUTSIDE, x -> x.office(0, 2, 4));
        changesNothing("office too large of who is out", OUTSIDE, x -> x.office(7, 5, 2));
    }

    static void refusedLeaveChangesNothing() {
        changesNothing("leave of no clerk", UNKNOWN, x -> x.leave(20));
        changesNothing("leave of who left", STATE, x -> x.leave(6));
        changesNothing("leave of who never came", STATE, x -> x.leave(7));
    }

    static void refusedTickChangesNothing() {
        changesNothing("tick at a time too small", OUTSIDE, x -> x.tick(9));
        changesNothing("tick at a time too large", OUTSIDE, x -> x.tick(LAST_TIME + 1));
        changesNothing("tick at a time that wraps around", OUTSIDE, x -> x.tick((1L << 32) + 11));
    }

    static void refusedReadingChangesNothing() {
        changesNothing("settled of no picture", UNKNOWN, x -> x.settled(8));
        changesNothing("state of no picture", UNKNOWN, x -> x.state(0));
        changesNothing("agreement of no clerk", UNKNOWN, x -> x.agreement(0, 20, 0));
        changesNothing("agreement on no side", OUTSIDE, x -> x.agreement(0, 1, 2));
        changesNothing("agreement with oneself", OUTSIDE, x -> x.agreement(0, 0, 1));
    }

    static void refusedForRoomChangesNothing() {
        ClerkRows x = Scene.withLatePictures(299);
        due("the 300th", x.picture(9, 0), 300);
        due("office", x.office(0, 0, 3), 1);
        due("office", x.office(1, 1, 3), 1);
        Scene.get(x, 0, 300, 3);
        due("picture", x.picture(9, 0), ROOM);
        due("waiting", x.waiting(), 1);
        due("state of the 300th", x.state(300), 0);
        due("the time is as it was", x.tick(3), 0);
        due("the one is held", x.answer(0, 300, 5, 3), 0);
        due("the other gets it", x.give(1, 3), 300);
        due("offices are as they were", x.office(0, 0, 3) + x.office(1, 1, 3), 0);
        due("tick", x.tick(10), 1);
        due("nobody else came", x.leave(2), STATE);
        due("state of the 301st", x.state(301), UNKNOWN);
    }

    // The other side: a call that is not refused does change something, so that the look above can see it.

    static void callsThatAreTakenAreSeen() {
        List<Call> calls = List.of(
            x -> x.picture(20, 0), x -> x.give(5, 10), x -> x.give(5, 11), x -> x.answer(0, 4, 8, 10),
            x -> x.answer(3, 3, 8, 10), x -> x.office(0, 2, 2), x -> x.office(7, 0, 0), x -> x.leave(0),
            x -> x.leave(5), x -> x.tick(10), x -> x.tick(11));
        List<Long> before = lookAtAll(busy());
        for (int i = 0; i < calls.size(); i++) {
            ClerkRows x = busy();
            CHECK.due("call " + i + " is taken", calls.get(i).on(x) >= 0);
            CHECK.due("call " + i + " is seen", !lookAtAll(x).equals(before));
        }
    }
}
