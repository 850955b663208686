/** Which picture is FREE for a clerk, and which of them is GIVEN: each sentence from both sides. */
public final class FreeTest {
    private static final int STATE = -103;
    private static final Check CHECK = new Check("FreeTest");

    public static void main(String[] args) throws IllegalAccessException {
        CHECK.runAll(FreeTest.class);
        CHECK.end();
    }

    private static void due(String call, long got, long want) {
        CHECK.due(call, got, want);
    }

    // "if it has not ended"

    static void onesThatEndedAreNotFree() {
        ClerkRows x = Scene.withClerksAndPictures(3, 3, 9);
        due("answer", Scene.answerTwice(x, 1, 5, 5, 0), 2);
        due("answer", Scene.answerTwice(x, 2, 0, 0, 0), 3);
        due("the one that has not ended", x.give(2, 9), 3);
        due("leave", x.leave(2), 1);
        due("tick", x.tick(10), 1);
        due("office", x.office(3, 3, 3), 1);
        due("none", x.give(3, 10), 0);
    }

    static void aLateOneThatIsGivenBackIsNotFree() {
        ClerkRows x = Scene.withClerksAndPictures(2, 1, 9);
        Scene.get(x, 0, 1, 0);
        due("tick", x.tick(10), 1);
        due("leave", x.leave(0), 1);
        due("give", x.give(1, 10), 0);
    }

    // "its answers and the clerks who hold it are fewer than it wants"

    static void oneHolderLeavesItFree() {
        ClerkRows x = Scene.withClerksAndPictures(3, 1, 9);
        Scene.get(x, 0, 1, 0);
        due("give", x.give(1, 0), 1);
    }

    static void twoHoldersAreEnough() {
        ClerkRows x = Scene.withClerksAndPictures(3, 1, 9);
        Scene.get(x, 0, 1, 0);
        Scene.get(x, 1, 1, 0);
        due("give", x.give(2, 0), 0);
    }

    static void oneAnswerLeavesItFree() {
        ClerkRows x = Scene.withClerksAndPictures(3, 1, 9);
        due("answer", Scene.getAndAnswer(x, 0, 1, 5, 0), 0);
        due("give", x.give(1, 0), 1);
    }

    static void oneAnswerAndOneHolderAreEnough() {
        ClerkRows x = Scene.withClerksAndPictures(3, 1, 9);
        due("answer", Scene.getAndAnswer(x, 0, 1, 5, 0), 0);
        Scene.get(x, 1, 1, 0);
        due("give", x.give(2, 0), 0);
    }

    static void twoAnswersThatDifferLeaveItFree() {
        ClerkRows x = Scene.withClerksAndPictures(3, 1, 9);
        due("answer", Scene.answerTwice(x, 1, 5, 6, 0), 0);
        due("give", x.give(2, 0), 1);
    }

    static void twoAnswersThatDifferAndOneHolderAreEnough() {
        ClerkRows x = Scene.withClerksAndPictures(4, 1, 9);
        due("answer", Scene.answerTwice(x, 1, 5, 6, 0), 0);
        Scene.get(x, 2, 1, 0);
        due("give", x.give(3, 0), 0);
    }

    static void oneThatIsGivenBackIsFreeForAnother() {
        ClerkRows x = Scene.withClerksAndPictures(4, 1, 9);
        due("answer", Scene.answerTwice(x, 1, 5, 6, 0), 0);
        Scene.get(x, 2, 1, 0);
        due("leave", x.leave(2), 1);
        due("give", x.give(3, 0), 1);
    }

    static void manyWhoGaveItBackLeaveItFree() {
        ClerkRows x = Scene.withClerksAndPictures(20, 1, 9);
        for (int clerk = 0; clerk < 18; clerk++) {
            Scene.get(x, clerk, 1, 0);
            due("leave", x.leave(clerk), 1);
        }
        due("give", x.give(18, 0), 1);
        due("give", x.give(19, 0), 1);
    }

    // "its skill is not above the clerk's"

    private static int giveOfSkill(int pictureSkill, int clerkSkill) {
        ClerkRows x = new ClerkRows(5);
        Scene.must("picture", x.picture(9, pictureSkill), 1);
        Scene.must("office", x.office(0, 0, clerkSkill), 1);
        return x.give(0, 0);
    }

    static void aSkillBelowTheClerksIsFree() {
        due("1 for 2", giveOfSkill(1, 2), 1);
        due("0 for 3", giveOfSkill(0, 3), 1);
    }

    static void aSkillLikeTheClerksIsFree() {
        for (int skill = 0; skill <= 3; skill++) {
            due("skill " + skill, giveOfSkill(skill, skill), 1);
        }
    }

    static void aSkillAboveTheClerksIsNotFree() {
        for (int skill = 1; skill <= 3; skill++) {
            due("skill " + skill, giveOfSkill(skill, skill - 1), 0);
        }
    }

    static void theClerksSkillIsTodays() {
        ClerkRows x = new ClerkRows(5);
        Scene.must("picture", x.picture(9, 2), 1);
        Scene.must("office", x.office(0, 0, 3), 1);
        due("less skill", x.office(0, 0, 1), 1);
        due("give", x.give(0, 0), 0);
        due("enough again", x.office(0, 0, 2), 1);
        due("give", x.give(0, 0), 1);
    }

    static void theSkillIsAskedOfAThirdToo() {
        ClerkRows x = Scene.withClerks(5, 2);
        due("picture", x.picture(9, 2), 1);
        due("answer", Scene.answerTwice(x, 1, 5, 6, 0), 0);
        due("office", x.office(2, 2, 1), 1);
        due("give", x.give(2, 0), 0);
        due("office", x.office(2, 2, 2), 1);
        due("give", x.give(2, 0), 1);
    }

    // "the clerk never had it"

    static void whoNeverHadItGetsIt() {
        ClerkRows x = Scene.withClerksAndPictures(2, 1, 9);
        Scene.get(x, 0, 1, 0);
        due("leave", x.leave(0), 1);
        due("give", x.give(1, 0), 1);
    }

    static void whoGaveItBackDoesNotGetIt() {
        ClerkRows x = Scene.withClerksAndPictures(1, 1, 9);
        Scene.get(x, 0, 1, 0);
        due("leave", x.leave(0), 1);
        due("office", x.office(0, 0, 3), 1);
        due("in the same office", x.give(0, 0), 0);
        due("office", x.office(0, 4, 2), 1);
        due("in another one", x.give(0, 0), 0);
    }

    static void whoGaveItBackDoesNotGetItAsAThird() {
        ClerkRows x = Scene.withClerksAndPictures(3, 1, 9);
        Scene.get(x, 2, 1, 0);
        due("leave", x.leave(2), 1);
        due("answer", Scene.answerTwice(x, 1, 5, 6, 0), 0);
        due("office", x.office(2, 2, 3), 1);
        due("give", x.give(2, 0), 0);
    }

    static void whoAnsweredItDoesNotGetIt() {
        ClerkRows x = Scene.withClerksAndPictures(1, 1, 9);
        due("answer", Scene.getAndAnswer(x, 0, 1, 5, 0), 0);
        due("office", x.office(0, 4, 3), 1);
        due("give", x.give(0, 0), 0);
    }

    static void whoAnsweredItDoesNotGetItAsAThird() {
        ClerkRows x = Scene.withClerksAndPictures(2, 1, 9);
        due("answer", Scene.answerTwice(x, 1, 5, 6, 0), 0);
        due("the first", x.give(0, 0), 0);
        due("the second", x.give(1, 0), 0);
        due("office", x.office(0, 4, 3), 1);
        due("the first in another office", x.give(0, 0), 0);
    }

    static void whoHadItGetsAnother() {
        ClerkRows x = Scene.withClerksAndPictures(1, 2, 9);
        Scene.get(x, 0, 1, 0);
        due("leave", x.leave(0), 1);
        due("office", x.office(0, 0, 3), 1);
        due("give", x.give(0, 0), 2);
    }

    // "as long as it wants two, nobody who answered it or holds it got it in the clerk's office"
    // (clerks 0 and 5 are in office 0, clerks 1 and 6 in office 1)

    static void officeOfAHolderIsBarred() {
        ClerkRows x = Scene.withClerksAndPictures(10, 1, 9);
        Scene.get(x, 0, 1, 0);
        due("the same office", x.give(5, 0), 0);
    }

    static void officesOfOthersAreNotBarred() {
        for (int other = 1; other <= 4; other++) {
            ClerkRows x = Scene.withClerksAndPictures(10, 1, 9);
            Scene.get(x, 0, 1, 0);
            due("office " + other, x.give(5 + other, 0), 1);
        }
    }

    static void officeOfOneWhoAnsweredIsBarred() {
        ClerkRows x = Scene.withClerksAndPictures(10, 1, 9);
        due("answer", Scene.getAndAnswer(x, 0, 1, 5, 0), 0);
        due("the same office", x.give(5, 0), 0);
        due("another office", x.give(6, 0), 1);
    }

    static void officeOfOneWhoAnsweredAndLeftIsBarred() {
        ClerkRows x = Scene.withClerksAndPictures(10, 1, 9);
        due("answer", Scene.getAndAnswer(x, 0, 1, 5, 0), 0);
        due("leave", x.leave(0), 0);
        due("the same office", x.give(5, 0), 0);
    }

    static void officeOfOneWhoGaveItBackIsNotBarred() {
        ClerkRows x = Scene.withClerksAndPictures(10, 1, 9);
        Scene.get(x, 0, 1, 0);
        due("leave", x.leave(0), 1);
        due("the same office", x.give(5, 0), 1);
    }

    static void officeWhereItWasGotIsBarredAfterAMove() {
        ClerkRows x = Scene.withClerksAndPictures(10, 1, 9);
        Scene.get(x, 0, 1, 0);
        due("office", x.office(0, 1, 3), 1);
        due("where it was got", x.give(5, 0), 0);
        due("where the holder is now", x.give(6, 0), 1);
    }

    static void officeWhereItWasGotIsBarredAfterAMoveAndAnAnswer() {
        ClerkRows x = Scene.withClerksAndPictures(10, 1, 9);
        Scene.get(x, 0, 1, 0);
        due("office", x.office(0, 1, 3), 1);
        due("answer", x.answer(0, 1, 5, 0), 0);
        due("where it was got", x.give(5, 0), 0);
        due("where it was answered", x.give(6, 0), 1);
    }

    static void officeOfWhoAsksIsTodays() {
        ClerkRows x = Scene.withClerksAndPictures(10, 1, 9);
        Scene.get(x, 0, 1, 0);
        due("office", x.office(6, 0, 3), 1);
        due("one who moved into it", x.give(6, 0), 0);
        due("office", x.office(5, 1, 3), 1);
        due("one who moved out of it", x.give(5, 0), 1);
    }

    static void officeIsBarredForThatPictureAlone() {
        ClerkRows x = Scene.withClerksAndPictures(10, 2, 9);
        Scene.get(x, 0, 1, 0);
        due("give", x.give(5, 0), 2);
    }

    static void noOfficeIsBarredForAThird() {
        for (int third = 5; third <= 6; third++) {
            ClerkRows x = Scene.withClerksAndPictures(10, 1, 9);
            due("answer", Scene.answerTwice(x, 1, 5, 6, 0), 0);
            due("the office of clerk " + third, x.give(third, 0), 1);
        }
    }

    static void officesAreBarredUntilTheSecondAnswer() {
        ClerkRows x = Scene.withClerksAndPictures(10, 1, 9);
        Scene.get(x, 0, 1, 0);
        Scene.get(x, 1, 1, 0);
        due("answer", x.answer(0, 1, 5, 0), 1);
        due("leave", x.leave(1), 1);
        due("one answer", x.give(5, 0), 0);
        Scene.get(x, 6, 1, 0);
        due("the second answer, which differs", x.answer(6, 1, 6, 0), 0);
        due("two answers", x.give(5, 0), 1);
    }

    // "GIVEN is the one that is free with the least due time, of these the least."

    static void theLeastDueTimeIsGiven() {
        ClerkRows x = Scene.withClerks(5, 1);
        due("picture", x.picture(9, 0), 1);
        due("picture", x.picture(8, 0), 2);
        due("picture", x.picture(10, 0), 3);
        due("give", x.give(0, 0), 2);
    }

    static void theLeastOfEqualDueTimesIsGiven() {
        ClerkRows x = Scene.withClerks(5, 1);
        due("picture", x.picture(9, 0), 1);
        due("picture", x.picture(8, 0), 2);
        due("picture", x.picture(8, 0), 3);
        due("give", x.give(0, 0), 2);
    }

    static void theLeastDueTimeThatIsFreeIsGiven() {
        ClerkRows x = new ClerkRows(5);
        due("office", x.office(0, 0, 0), 1);
        due("picture", x.picture(7, 1), 1);
        due("picture", x.picture(9, 0), 2);
        due("picture", x.picture(8, 3), 3);
        due("picture", x.picture(9, 0), 4);
        due("give", x.give(0, 0), 2);
    }

    static void allAreGivenInOrder() {
        ClerkRows x = Scene.withClerks(10, 1);
        long[] dues = {1_000_000_000L, 30, 0, 30, 29, 0};
        for (int i = 0; i < dues.length; i++) {
            due("picture", x.picture(dues[i], 0), i + 1);
        }
        int[] order = {3, 6, 5, 2, 4, 1};
        for (int picture : order) {
            due("give", x.give(0, 0), picture);
            due("one at a time", x.give(0, 0), STATE);
            due("answer", x.answer(0, picture, 5, 0), 0);
        }
        due("none more", x.give(0, 0), 0);
    }

    static void theTimePassesBeforeOneIsGiven() {
        ClerkRows x = Scene.withClerks(5, 1);
        due("picture", x.picture(8, 0), 1);
        due("picture", x.picture(9, 0), 2);
        due("the first is late at 9", x.give(0, 9), 2);
        ClerkRows y = Scene.withClerks(5, 1);
        due("picture", y.picture(8, 0), 1);
        due("picture", y.picture(9, 0), 2);
        due("the first is not late at 8", y.give(0, 8), 1);
    }
}
