/** Nobody in, nothing free, every place or number taken, a hand that is empty or full. */
public final class EmptyFullTest {
    private static final int UNKNOWN = -101, STATE = -103, ROOM = -104;
    private static final Check CHECK = new Check("EmptyFullTest");

    public static void main(String[] args) throws IllegalAccessException {
        CHECK.runAll(EmptyFullTest.class);
        CHECK.end();
    }

    private static void due(String call, long got, long want) {
        CHECK.due(call, got, want);
    }

    // "nobody is in"; "STATE (the clerk is not in, ..)"

    private static void isOut(ClerkRows x, int clerk) {
        due("give to " + clerk, x.give(clerk, 0), STATE);
        due("answer of " + clerk, x.answer(clerk, 1, 5, 0), STATE);
        due("leave of " + clerk, x.leave(clerk), STATE);
    }

    static void nobodyIsInAtFirst() {
        ClerkRows x = Scene.withClerksAndPictures(0, 1, 9);
        for (int clerk = 0; clerk < 20; clerk++) {
            isOut(x, clerk);
        }
    }

    static void whoCameIsIn() {
        for (int clerk = 0; clerk < 20; clerk++) {
            ClerkRows x = Scene.withClerksAndPictures(0, 1, 9);
            due("office of " + clerk, x.office(clerk, 0, 0), 1);
            due("give to " + clerk, x.give(clerk, 0), 1);
            due("leave of " + clerk, x.leave(clerk), 1);
        }
    }

    static void whoCameIsInAlone() {
        ClerkRows x = Scene.withClerksAndPictures(0, 1, 9);
        due("office", x.office(7, 0, 0), 1);
        for (int clerk = 0; clerk < 20; clerk++) {
            if (clerk != 7) {
                isOut(x, clerk);
            }
        }
    }

    static void whoLeftIsOut() {
        ClerkRows x = Scene.withClerksAndPictures(1, 1, 9);
        due("leave", x.leave(0), 0);
        isOut(x, 0);
    }

    static void whoLeftWithAPictureIsOut() {
        ClerkRows x = Scene.withClerksAndPictures(1, 1, 9);
        Scene.get(x, 0, 1, 0);
        due("leave", x.leave(0), 1);
        isOut(x, 0);
    }

    static void whoCameAgainIsIn() {
        ClerkRows x = Scene.withClerksAndPictures(1, 1, 9);
        due("leave", x.leave(0), 0);
        due("office", x.office(0, 0, 3), 1);
        due("give", x.give(0, 0), 1);
    }

    // "A clerk is in from now on, with an office and a skill (or changes them): 1; 0 if it was so."

    static void officeOfAClerkWhoIsOutIs1() {
        due("office", new ClerkRows(5).office(0, 0, 0), 1);
    }

    static void officeThatWasSoIs0() {
        ClerkRows x = Scene.withClerks(5, 1);
        due("office", x.office(0, 0, 3), 0);
        due("give: the clerk is in, still", x.give(0, 0), 0);
    }

    static void officeThatChangesIs1() {
        ClerkRows x = Scene.withClerks(5, 1);
        due("another office", x.office(0, 1, 3), 1);
        due("another skill", x.office(0, 1, 2), 1);
        due("as it was changed", x.office(0, 1, 2), 0);
        due("both as they were at first", x.office(0, 0, 3), 1);
    }

    static void officeOfAClerkWhoLeftIs1() {
        ClerkRows x = Scene.withClerks(5, 1);
        due("leave", x.leave(0), 0);
        due("office", x.office(0, 0, 3), 1);
        due("office", x.office(0, 0, 3), 0);
    }

    static void officeOfOneWhoHoldsLeavesTheHandFull() {
        ClerkRows x = Scene.withClerksAndPictures(1, 2, 9);
        Scene.get(x, 0, 1, 0);
        due("office", x.office(0, 4, 0), 1);
        due("give", x.give(0, 0), STATE);
        due("answer", x.answer(0, 1, 5, 0), 0);
        due("give", x.give(0, 0), 2);
        due("office", x.office(0, 4, 0), 0);
        due("leave", x.leave(0), 1);
    }

    static void officeOfOneWhoHoldsNoneLeavesTheHandEmpty() {
        ClerkRows x = Scene.withClerksAndPictures(1, 1, 9);
        due("office", x.office(0, 4, 0), 1);
        due("leave", x.leave(0), 0);
    }

    // "it; 0 when none is free"

    static void giveIs0WithoutAPicture() {
        due("give", Scene.withClerks(5, 1).give(0, 0), 0);
    }

    static void giveIsTheOnlyPicture() {
        due("give", Scene.withClerksAndPictures(1, 1, 9).give(0, 0), 1);
    }

    static void giveIs0AfterTheLastFreeOne() {
        ClerkRows x = Scene.withClerksAndPictures(1, 2, 9);
        due("answer", Scene.getAndAnswer(x, 0, 1, 5, 0), 0);
        due("answer", Scene.getAndAnswer(x, 0, 2, 5, 0), 0);
        due("give", x.give(0, 0), 0);
    }

    static void giveOf0LeavesTheHandEmpty() {
        ClerkRows x = Scene.withClerks(5, 1);
        due("give", x.give(0, 0), 0);
        due("picture", x.picture(9, 0), 1);
        due("give", x.give(0, 0), 1);
        ClerkRows y = Scene.withClerks(5, 1);
        due("give", y.give(0, 0), 0);
        due("leave", y.leave(0), 0);
    }

    // "0 when as many as may have not ended"

    private static ClerkRows withOpen(int most, int open) {
        ClerkRows x = Scene.withClerks(most, 2);
        for (int i = 1; i <= open; i++) {
            Scene.must("picture", x.picture(9, 0), i);
        }
        return x;
    }

    static void oneLessThanMayIsMade() {
        due("the first of 1", withOpen(1, 0).picture(9, 0), 1);
        due("the last of 3", withOpen(3, 2).picture(9, 0), 3);
        due("the last of 100", withOpen(100, 99).picture(9, 0), 100);
    }

    static void asManyAsMayIs0() {
        due("one more than 1", withOpen(1, 1).picture(9, 0), 0);
        due("one more than 3", withOpen(3, 3).picture(9, 0), 0);
        due("one more than 100", withOpen(100, 100).picture(9, 0), 0);
    }

    static void pictureOf0MakesNone() {
        ClerkRows x = withOpen(2, 2);
        due("picture", x.picture(50, 0), 0);
        due("waiting", x.waiting(), 2);
        due("state", x.state(3), UNKNOWN);
        due("tick", x.tick(10), 2);
        due("the next number leaves no gap", x.picture(50, 0), 3);
    }

    static void thoseThatAreHeldHaveNotEnded() {
        ClerkRows x = withOpen(1, 1);
        Scene.get(x, 0, 1, 0);
        due("one holds it", x.picture(9, 0), 0);
        Scene.get(x, 1, 1, 0);
        due("two hold it", x.picture(9, 0), 0);
        due("answer", x.answer(0, 1, 5, 0), 1);
        due("one answered it", x.picture(9, 0), 0);
        due("answer", x.answer(1, 1, 6, 0), 0);
        due("two differ", x.picture(9, 0), 0);
    }

    static void onesSettledMakePlace() {
        ClerkRows x = withOpen(1, 1);
        due("answer", Scene.answerTwice(x, 1, 5, 5, 0), 2);
        due("picture", x.picture(9, 0), 2);
        due("picture", x.picture(9, 0), 0);
    }

    static void onesUnreadableMakePlace() {
        ClerkRows x = withOpen(1, 1);
        due("answer", Scene.answerTwice(x, 1, 0, 0, 0), 3);
        due("picture", x.picture(9, 0), 2);
        due("picture", x.picture(9, 0), 0);
    }

    static void onesLateMakePlace() {
        ClerkRows x = withOpen(1, 1);
        due("tick", x.tick(9), 0);
        due("not late yet", x.picture(9, 0), 0);
        due("tick", x.tick(10), 1);
        due("picture", x.picture(10, 0), 2);
        due("picture", x.picture(10, 0), 0);
    }

    static void aLateOneThatIsHeldMakesPlace() {
        ClerkRows x = withOpen(1, 1);
        Scene.get(x, 0, 1, 0);
        due("tick", x.tick(10), 1);
        due("picture", x.picture(10, 0), 2);
        due("an answer to it makes no second place", x.answer(0, 1, 5, 10), 4);
        due("picture", x.picture(10, 0), 0);
    }

    // ROOM: "(300 at most)"

    static void roomWhenNoneIsOpen() {
        ClerkRows x = Scene.withLatePictures(300);
        due("waiting", x.waiting(), 0);
        due("picture", x.picture(9, 0), ROOM);
        due("picture", x.picture(9, 0), ROOM);
    }

    static void noRoomIsWantedFor300() {
        ClerkRows x = Scene.withLatePictures(298);
        due("the 299th", x.picture(9, 0), 299);
        due("the 300th", x.picture(9, 0), 300);
        due("waiting", x.waiting(), 2);
    }

    static void roomStaysWhenPicturesEnd() {
        ClerkRows x = Scene.withLatePictures(299);
        due("the 300th", x.picture(9, 0), 300);
        due("picture", x.picture(9, 0), ROOM);
        due("tick", x.tick(10), 1);
        due("picture", x.picture(50, 0), ROOM);
        due("state", x.state(300), 4);
        due("state", x.state(1), 4);
    }

    // "a clerk in HOLDS one picture or none"; "STATE (.. or holds one already, or not that one)"

    static void whoHoldsNoneGetsOne() {
        due("give", Scene.withClerksAndPictures(1, 2, 9).give(0, 0), 1);
    }

    static void whoHoldsOneGetsNoSecond() {
        ClerkRows x = Scene.withClerksAndPictures(1, 2, 9);
        Scene.get(x, 0, 1, 0);
        due("give", x.give(0, 0), STATE);
        due("the one is held, still", x.answer(0, 1, 5, 0), 0);
    }

    static void whoHoldsALateOneGetsNoSecond() {
        ClerkRows x = Scene.withClerksAndPictures(1, 1, 9);
        due("picture", x.picture(50, 0), 2);
        Scene.get(x, 0, 1, 0);
        due("tick", x.tick(10), 1);
        due("give", x.give(0, 10), STATE);
    }

    static void whoHoldsNoneAnswersNone() {
        due("answer", Scene.withClerksAndPictures(1, 1, 9).answer(0, 1, 5, 0), STATE);
    }

    static void whoHoldsOneAnswersIt() {
        ClerkRows x = Scene.withClerksAndPictures(1, 2, 9);
        Scene.get(x, 0, 1, 0);
        due("answer", x.answer(0, 1, 5, 0), 0);
    }

    static void whoHoldsOneAnswersNoOther() {
        ClerkRows x = Scene.withClerksAndPictures(2, 2, 9);
        Scene.get(x, 0, 1, 0);
        due("one that nobody holds", x.answer(0, 2, 5, 0), STATE);
        Scene.get(x, 1, 1, 0);
        due("answer", x.answer(1, 1, 5, 0), 1);
        Scene.get(x, 1, 2, 0);
        due("one that another holds", x.answer(0, 2, 5, 0), STATE);
        due("one answered before", x.answer(1, 1, 5, 0), STATE);
        due("the one that is held", x.answer(1, 2, 5, 0), 0);
    }

    // "Who answers holds it no more."

    static void whoAnsweredMayGetAnother() {
        ClerkRows x = Scene.withClerksAndPictures(1, 2, 9);
        due("answer", Scene.getAndAnswer(x, 0, 1, 5, 0), 0);
        due("give", x.give(0, 0), 2);
    }

    static void whoAnsweredAnswersOnce() {
        ClerkRows x = Scene.withClerksAndPictures(1, 1, 9);
        due("answer", Scene.getAndAnswer(x, 0, 1, 5, 0), 0);
        due("answer", x.answer(0, 1, 5, 0), STATE);
        due("one answer alone", x.settled(1), -1);
    }

    static void whoAnsweredALateOneMayGetAnother() {
        ClerkRows x = Scene.withClerksAndPictures(1, 1, 9);
        due("picture", x.picture(50, 0), 2);
        Scene.get(x, 0, 1, 0);
        due("answer", x.answer(0, 1, 5, 10), 4);
        due("answer", x.answer(0, 1, 5, 10), STATE);
        due("give", x.give(0, 10), 2);
    }

    // "A clerk leaves, and gives back what he or she holds (and had it, still): how many pictures (0 or 1)."

    static void leaveWithoutAPictureIs0() {
        due("leave", Scene.withClerksAndPictures(1, 1, 9).leave(0), 0);
    }

    static void leaveWithAPictureIs1() {
        ClerkRows x = Scene.withClerksAndPictures(1, 1, 9);
        Scene.get(x, 0, 1, 0);
        due("leave", x.leave(0), 1);
    }

    static void leaveAfterTheAnswerIs0() {
        ClerkRows x = Scene.withClerksAndPictures(1, 1, 9);
        due("answer", Scene.getAndAnswer(x, 0, 1, 5, 0), 0);
        due("leave", x.leave(0), 0);
    }

    static void leaveWithALatePictureIs1() {
        ClerkRows x = Scene.withClerksAndPictures(1, 1, 9);
        Scene.get(x, 0, 1, 0);
        due("tick", x.tick(10), 1);
        due("leave", x.leave(0), 1);
        due("state", x.state(1), 4);
    }

    static void leaveAfterComingAgainIs0() {
        ClerkRows x = Scene.withClerksAndPictures(1, 1, 9);
        Scene.get(x, 0, 1, 0);
        due("leave", x.leave(0), 1);
        due("office", x.office(0, 0, 3), 1);
        due("given back is held no more", x.answer(0, 1, 5, 0), STATE);
        due("leave", x.leave(0), 0);
    }

    static void leaveGivesThePlaceToAnother() {
        ClerkRows x = Scene.withClerksAndPictures(3, 1, 9);
        Scene.get(x, 0, 1, 0);
        Scene.get(x, 1, 1, 0);
        due("enough hold it", x.give(2, 0), 0);
        due("leave", x.leave(0), 1);
        due("state", x.state(1), 0);
        due("give", x.give(2, 0), 1);
    }

    static void leaveWithoutAPictureGivesNoPlace() {
        ClerkRows x = Scene.withClerksAndPictures(3, 1, 9);
        due("answer", Scene.getAndAnswer(x, 0, 1, 5, 0), 0);
        Scene.get(x, 1, 1, 0);
        due("leave", x.leave(0), 0);
        due("state", x.state(1), 1);
        due("give", x.give(2, 0), 0);
    }

    // "How many pictures have not ended."

    static void waitingIs0AtFirst() {
        due("waiting", new ClerkRows(5).waiting(), 0);
    }

    static void waitingIsFull() {
        due("waiting", withOpen(1, 1).waiting(), 1);
        due("waiting", withOpen(100, 100).waiting(), 100);
    }

    static void waitingCountsNoneThatEnded() {
        ClerkRows x = Scene.withClerksAndPictures(2, 4, 9);
        due("answer", Scene.answerTwice(x, 1, 5, 5, 0), 2);
        due("one settled", x.waiting(), 3);
        due("answer", Scene.answerTwice(x, 2, 0, 0, 0), 3);
        due("one unreadable", x.waiting(), 2);
        due("tick", x.tick(10), 2);
        due("the others late", x.waiting(), 0);
    }

    // Nothing to count

    static void tickOfNoPictureIs0() {
        due("tick", new ClerkRows(5).tick(1), 0);
    }

    static void agreementOnNoPictureIs0() {
        ClerkRows x = Scene.withClerksAndPictures(2, 1, 9);
        due("nobody answered", x.agreement(0, 1, 1), 0);
        due("answer", Scene.getAndAnswer(x, 0, 1, 5, 0), 0);
        due("one answered, both sides", x.agreement(0, 1, 1) + x.agreement(1, 0, 1), 0);
        Scene.get(x, 1, 1, 0);
        due("the other holds it", x.agreement(0, 1, 1), 0);
        due("leave", x.leave(1), 1);
        due("the other gave it back", x.agreement(0, 1, 1), 0);
        due("none is alike", x.agreement(0, 1, 0), 0);
    }

    static void agreementOnOnePictureIs1() {
        ClerkRows x = Scene.withClerksAndPictures(2, 1, 9);
        due("answer", Scene.answerTwice(x, 1, 5, 5, 0), 2);
        due("both", x.agreement(0, 1, 1), 1);
        due("alike", x.agreement(0, 1, 0), 1);
    }

    static void agreementOnThePicturesOfTwoBothGivenBackIs0() {
        ClerkRows x = Scene.withClerksAndPictures(2, 1, 9);
        Scene.get(x, 0, 1, 0);
        Scene.get(x, 1, 1, 0);
        due("both hold it", x.agreement(0, 1, 1), 0);
        due("both hold it", x.agreement(0, 1, 0), 0);
        due("leave", x.leave(0), 1);
        due("leave", x.leave(1), 1);
        due("both gave it back", x.agreement(0, 1, 1), 0);
        due("both gave it back", x.agreement(0, 1, 0), 0);
    }

    // "An object is used for at most 512 calls after it has been made"

    static void the512thCallIsAnsweredAsTheFirst() {
        ClerkRows x = Scene.withClerks(100, 20);
        int calls = 20;
        for (int i = 1; i <= 300; i++) {
            Scene.must("picture", x.picture(i <= 200 ? (i - 1) / 100 : 50, 0), i);
            calls++;
            if (i == 100 || i == 200) {
                Scene.must("tick", x.tick(i / 100), 100);
                calls++;
            }
        }
        for (int i = 0; calls < 510; i++) {
            int clerk = i % 20;
            int picture = x.give(clerk, 2);
            Scene.must("a picture is free", picture > 200 ? 1 : 0, 1);
            Scene.must("answer " + i, x.answer(clerk, picture, 5, 2) % 2, 0);
            calls += 2;
        }
        due("the 511th", x.picture(50, 0), ROOM);
        due("the 512th", x.waiting(), 53);
    }
}
