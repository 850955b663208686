/** How a picture comes to its end, just before the end and just after it, and what it is then. */
public final class EndsTest {
    private static final int OUTSIDE = -102, STATE = -103;
    private static final long LAST_TIME = 1_000_000_000L;
    private static final Check CHECK = new Check("EndsTest");

    public static void main(String[] args) throws IllegalAccessException {
        CHECK.runAll(EndsTest.class);
        CHECK.end();
    }

    private static void due(String call, long got, long want) {
        CHECK.due(call, got, want);
    }

    private static void isOpen(ClerkRows x, int picture, int state) {
        due("state of " + picture, x.state(picture), state);
        due("settled of " + picture, x.settled(picture), -1);
    }

    private static void isEnded(ClerkRows x, int picture, int state, int settled) {
        due("state of " + picture, x.state(picture), state);
        due("settled of " + picture, x.settled(picture), settled);
    }

    // "each picture that has not ENDED, and is due before t, ends as LATE"

    /** Pictures 1, 2, 3 are due at 9, 10, 11; clerk 1 holds picture 1. */
    private static ClerkRows dueAround10() {
        ClerkRows x = Scene.withClerks(5, 2);
        for (int i = 1; i <= 3; i++) {
            Scene.must("picture", x.picture(8 + i, 0), i);
        }
        Scene.get(x, 1, 1, 9);
        return x;
    }

    private static void onlyTheFirstIsLate(ClerkRows x) {
        isEnded(x, 1, 4, 0);
        isOpen(x, 2, 0);
        isOpen(x, 3, 0);
        due("waiting", x.waiting(), 2);
    }

    static void tickEndsThoseDueBeforeIt() {
        ClerkRows x = dueAround10();
        due("tick", x.tick(10), 1);
        onlyTheFirstIsLate(x);
    }

    static void giveEndsThoseDueBeforeIt() {
        ClerkRows x = dueAround10();
        due("the one due at 10 itself is given", x.give(0, 10), 2);
        onlyTheFirstIsLate(x);
    }

    static void giveOfNoneEndsThoseDueBeforeIt() {
        ClerkRows x = dueAround10();
        due("all were free until then", x.give(0, 12), 0);
        due("state", x.state(1), 4);
        due("state", x.state(2), 4);
        due("state", x.state(3), 4);
    }

    static void answerEndsThoseDueBeforeIt() {
        ClerkRows x = dueAround10();
        due("answer", x.answer(1, 1, 5, 10), 4);
        onlyTheFirstIsLate(x);
    }

    static void nothingIsLateAtItsDueTime() {
        ClerkRows x = dueAround10();
        due("tick", x.tick(9), 0);
        due("give", x.give(0, 9), 1);
        due("answer", x.answer(1, 1, 5, 9), 1);
        isOpen(x, 1, 1);
        due("waiting", x.waiting(), 3);
    }

    static void anAnswerAtTheDueTimeSettles() {
        ClerkRows x = Scene.withClerksAndPictures(2, 1, 10);
        due("answer", Scene.getAndAnswer(x, 0, 1, 5, 10), 0);
        due("answer", Scene.getAndAnswer(x, 1, 1, 5, 10), 2);
    }

    static void anAnswerAfterTheDueTimeDoesNotSettle() {
        ClerkRows x = Scene.withClerksAndPictures(2, 1, 10);
        due("answer", Scene.getAndAnswer(x, 0, 1, 5, 10), 0);
        Scene.get(x, 1, 1, 10);
        due("answer", x.answer(1, 1, 5, 11), 4);
        isEnded(x, 1, 4, 0);
    }

    static void dueAtTheLastTimeIsNeverLate() {
        ClerkRows x = Scene.withClerksAndPictures(1, 1, LAST_TIME);
        due("tick", x.tick(LAST_TIME), 0);
        isOpen(x, 1, 0);
        due("give", x.give(0, LAST_TIME), 1);
    }

    static void dueBeforeTheLastTimeIsLateThen() {
        ClerkRows x = Scene.withClerksAndPictures(1, 1, LAST_TIME - 1);
        due("tick", x.tick(LAST_TIME), 1);
        isEnded(x, 1, 4, 0);
    }

    static void allThatAreDueEndAtOnce() {
        ClerkRows x = Scene.withClerksAndPictures(0, 100, 9);
        due("tick", x.tick(10), 100);
        isEnded(x, 1, 4, 0);
        isEnded(x, 100, 4, 0);
        due("waiting", x.waiting(), 0);
    }

    static void thoseThatAreHeldEndAsLate() {
        ClerkRows x = Scene.withClerksAndPictures(2, 1, 9);
        Scene.get(x, 0, 1, 0);
        Scene.get(x, 1, 1, 0);
        due("tick", x.tick(10), 1);
        isEnded(x, 1, 4, 0);
    }

    static void thoseThatWantAThirdEndAsLate() {
        ClerkRows x = Scene.withClerksAndPictures(3, 1, 9);
        due("answer", Scene.answerTwice(x, 1, 5, 6, 0), 0);
        due("tick", x.tick(10), 1);
        isEnded(x, 1, 4, 0);
        due("give", x.give(2, 10), 0);
    }

    // A picture comes to an end "once": one "that has not ENDED" ends as late, no other

    static void aSettledOneIsNotLate() {
        ClerkRows x = Scene.withClerksAndPictures(2, 1, 9);
        due("answer", Scene.answerTwice(x, 1, 5, 5, 0), 2);
        due("tick", x.tick(10), 0);
        isEnded(x, 1, 2, 5);
    }

    static void anUnreadableOneIsNotLate() {
        ClerkRows x = Scene.withClerksAndPictures(2, 1, 9);
        due("answer", Scene.answerTwice(x, 1, 0, 0, 0), 3);
        due("tick", x.tick(10), 0);
        isEnded(x, 1, 3, 0);
    }

    static void oneUnreadableByAThirdIsNotLate() {
        ClerkRows x = Scene.withClerksAndPictures(3, 1, 9);
        due("answer", Scene.answerTwice(x, 1, 5, 6, 0), 0);
        due("answer", Scene.getAndAnswer(x, 2, 1, 7, 0), 3);
        due("tick", x.tick(10), 0);
        isEnded(x, 1, 3, 0);
    }

    static void aLateOneIsLateOnce() {
        ClerkRows x = Scene.withClerksAndPictures(0, 1, 9);
        due("tick", x.tick(10), 1);
        due("tick", x.tick(11), 0);
        isEnded(x, 1, 4, 0);
    }

    // "A picture WANTS two answers, three when the first two are there and differ."

    static void oneAnswerIsNotEnough() {
        ClerkRows x = Scene.withClerksAndPictures(2, 1, 9);
        due("answer", Scene.getAndAnswer(x, 0, 1, 5, 0), 0);
        isOpen(x, 1, 0);
    }

    static void oneAnswerOf0IsNotEnough() {
        ClerkRows x = Scene.withClerksAndPictures(2, 1, 9);
        due("answer", Scene.getAndAnswer(x, 0, 1, 0, 0), 0);
        isOpen(x, 1, 0);
    }

    static void twoThatDifferAreNotEnough() {
        ClerkRows x = Scene.withClerksAndPictures(2, 1, 9);
        due("answer", Scene.answerTwice(x, 1, 5, 6, 0), 0);
        isOpen(x, 1, 0);
        due("waiting", x.waiting(), 1);
    }

    static void twoThatDifferByReadingAreNotEnough() {
        ClerkRows x = Scene.withClerksAndPictures(2, 1, 9);
        due("answer", Scene.answerTwice(x, 1, 0, 1, 0), 0);
        isOpen(x, 1, 0);
        ClerkRows y = Scene.withClerksAndPictures(2, 1, 9);
        due("answer", Scene.answerTwice(y, 1, 9999, 0, 0), 0);
        isOpen(y, 1, 0);
    }

    static void oneThatIsGivenBackIsNoAnswer() {
        ClerkRows x = Scene.withClerksAndPictures(3, 1, 9);
        due("answer", Scene.getAndAnswer(x, 0, 1, 5, 0), 0);
        Scene.get(x, 1, 1, 0);
        due("leave", x.leave(1), 1);
        isOpen(x, 1, 0);
        due("the second answer", Scene.getAndAnswer(x, 2, 1, 5, 0), 2);
    }

    static void oneThatIsGivenBackDoesNotDiffer() {
        ClerkRows x = Scene.withClerksAndPictures(4, 1, 9);
        Scene.get(x, 0, 1, 0);
        due("leave", x.leave(0), 1);
        Scene.get(x, 1, 1, 0);
        Scene.get(x, 2, 1, 0);
        due("two are as many as it wants", x.state(1), 1);
        due("the first answer", x.answer(1, 1, 5, 0), 1);
        due("the second answer, which differs", x.answer(2, 1, 6, 0), 0);
        due("the third answer", Scene.getAndAnswer(x, 3, 1, 6, 0), 2);
    }

    // "Two that are equal end the picture: as SETTLED with that entry, or UNREADABLE (0)."

    static void twoEqualOnesSettle() {
        ClerkRows x = Scene.withClerksAndPictures(2, 1, 9);
        due("answer", Scene.answerTwice(x, 1, 5, 5, 0), 2);
        isEnded(x, 1, 2, 5);
        due("waiting", x.waiting(), 0);
    }

    static void twoEqualOnesOfOthersDoNotSettle() {
        ClerkRows x = Scene.withClerksAndPictures(2, 2, 9);
        due("answer", Scene.getAndAnswer(x, 0, 1, 5, 0), 0);
        due("answer", Scene.getAndAnswer(x, 0, 2, 5, 0), 0);
        isOpen(x, 1, 0);
        isOpen(x, 2, 0);
    }

    static void twoOf0AreUnreadable() {
        ClerkRows x = Scene.withClerksAndPictures(2, 1, 9);
        due("answer", Scene.answerTwice(x, 1, 0, 0, 0), 3);
        isEnded(x, 1, 3, 0);
        due("waiting", x.waiting(), 0);
    }

    static void twoOf0AreAlike() {
        ClerkRows x = Scene.withClerksAndPictures(2, 1, 9);
        due("answer", Scene.answerTwice(x, 1, 0, 0, 0), 3);
        due("both", x.agreement(0, 1, 1), 1);
        due("alike", x.agreement(0, 1, 0), 1);
    }

    static void oneOf0AndOneThatReadsAreNotAlike() {
        ClerkRows x = Scene.withClerksAndPictures(2, 1, 9);
        due("answer", Scene.answerTwice(x, 1, 0, 5, 0), 0);
        due("both", x.agreement(0, 1, 1), 1);
        due("alike", x.agreement(0, 1, 0), 0);
    }

    private static void third(int first, int second, int third, int state, int settled) {
        ClerkRows x = Scene.withClerksAndPictures(4, 1, 9);
        Scene.must("two answers", Scene.answerTwice(x, 1, first, second, 0), 0);
        due("answers " + first + " " + second + " " + third,
            Scene.getAndAnswer(x, 2, 1, third, 0), state);
        isEnded(x, 1, state, settled);
        due("waiting", x.waiting(), 0);
        due("nobody gets it then", x.give(3, 0), 0);
    }

    static void aThirdLikeTheFirstSettles() {
        third(5, 6, 5, 2, 5);
    }

    static void aThirdLikeTheSecondSettles() {
        third(5, 6, 6, 2, 6);
    }

    static void aThirdThatReadsLikeTheOneWhoReadSettles() {
        third(0, 6, 6, 2, 6);
        third(6, 0, 6, 2, 6);
    }

    static void aThirdOf0LikeAnotherIsUnreadable() {
        third(0, 6, 0, 3, 0);
        third(6, 0, 0, 3, 0);
    }

    // "A third that is like none of the first two ends it as unreadable."

    static void aThirdLikeNoneIsUnreadable() {
        third(5, 6, 7, 3, 0);
        third(1, 9999, 9998, 3, 0);
    }

    static void aThirdOf0LikeNoneIsUnreadable() {
        third(5, 6, 0, 3, 0);
    }

    static void aThirdThatReadsUnlikeTheOneWhoReadIsUnreadable() {
        third(0, 6, 7, 3, 0);
        third(6, 0, 7, 3, 0);
    }

    // "An answer to a picture that has ended is kept, but does nothing else."

    /** Clerks 0 and 1 hold picture 1, which is late at 10, and tick told so; picture 2 is free. */
    private static ClerkRows withALateOneHeldByTwo() {
        ClerkRows x = Scene.withClerksAndPictures(4, 1, 9);
        Scene.must("picture", x.picture(50, 0), 2);
        Scene.get(x, 0, 1, 0);
        Scene.get(x, 1, 1, 0);
        Scene.must("tick", x.tick(10), 1);
        return x;
    }

    static void anAnswerToAnEndedOneIsKept() {
        ClerkRows x = withALateOneHeldByTwo();
        due("answer", x.answer(0, 1, 5, 10), 4);
        due("the other has not answered", x.agreement(0, 1, 1), 0);
        due("answer", x.answer(1, 1, 5, 10), 4);
        due("both", x.agreement(0, 1, 1), 1);
        due("alike", x.agreement(0, 1, 0), 1);
    }

    static void oneThatIsOfAnotherEntryIsKeptAsThat() {
        ClerkRows x = withALateOneHeldByTwo();
        due("answer", x.answer(0, 1, 5, 10), 4);
        due("answer", x.answer(1, 1, 0, 10), 4);
        due("both", x.agreement(0, 1, 1), 1);
        due("alike", x.agreement(0, 1, 0), 0);
    }

    static void oneInTimeAndOneTooLateAreBothKept() {
        ClerkRows x = Scene.withClerksAndPictures(2, 1, 9);
        due("answer", Scene.getAndAnswer(x, 0, 1, 0, 9), 0);
        Scene.get(x, 1, 1, 9);
        due("answer", x.answer(1, 1, 0, 10), 4);
        due("both", x.agreement(0, 1, 1), 1);
        due("alike", x.agreement(0, 1, 0), 1);
    }

    static void oneGivenBackAfterTheEndIsNotKept() {
        ClerkRows x = withALateOneHeldByTwo();
        due("answer", x.answer(0, 1, 5, 10), 4);
        due("leave", x.leave(1), 1);
        due("both", x.agreement(0, 1, 1), 0);
    }

    private static void staysLate(ClerkRows x) {
        isEnded(x, 1, 4, 0);
        due("waiting", x.waiting(), 1);
        due("nobody gets it then", x.give(2, 10), 2);
        due("tick", x.tick(10), 0);
    }

    static void equalAnswersToAnEndedOneDoNotSettle() {
        ClerkRows x = withALateOneHeldByTwo();
        due("answer", x.answer(0, 1, 5, 10), 4);
        due("answer", x.answer(1, 1, 5, 10), 4);
        staysLate(x);
    }

    static void answersOf0ToAnEndedOneAreNotUnreadable() {
        ClerkRows x = withALateOneHeldByTwo();
        due("answer", x.answer(0, 1, 0, 10), 4);
        due("answer", x.answer(1, 1, 0, 10), 4);
        staysLate(x);
    }

    static void answersToAnEndedOneThatDifferWantNoThird() {
        ClerkRows x = withALateOneHeldByTwo();
        due("answer", x.answer(0, 1, 5, 10), 4);
        due("answer", x.answer(1, 1, 6, 10), 4);
        staysLate(x);
    }

    private static void lateThird(int entry, int alikeFirst, int alikeSecond) {
        ClerkRows x = Scene.withClerksAndPictures(4, 1, 9);
        Scene.must("two answers", Scene.answerTwice(x, 1, 5, 6, 0), 0);
        Scene.get(x, 2, 1, 9);
        due("answer", x.answer(2, 1, entry, 10), 4);
        isEnded(x, 1, 4, 0);
        due("both", x.agreement(0, 2, 1), 1);
        due("alike", x.agreement(0, 2, 0), alikeFirst);
        due("alike", x.agreement(1, 2, 0), alikeSecond);
        due("tick", x.tick(10), 1);
        due("tick", x.tick(10), 0);
    }

    static void aThirdTooLateDoesNotSettle() {
        lateThird(5, 1, 0);
        lateThird(6, 0, 1);
    }

    static void aThirdTooLateDoesNotMakeItUnreadable() {
        lateThird(7, 0, 0);
        lateThird(0, 0, 0);
    }

    // "how many pictures ended as late since the tick before (by calls in between, too)"

    static void tickCountsNoneBeforeTheDueTime() {
        due("tick", dueAround10().tick(9), 0);
    }

    static void tickCountsThoseOfItsOwnCall() {
        due("tick", dueAround10().tick(11), 2);
    }

    static void tickCountsThoseOfAGiveBefore() {
        ClerkRows x = dueAround10();
        due("give", x.give(0, 11), 3);
        due("tick", x.tick(11), 2);
        due("tick", x.tick(11), 0);
    }

    static void tickCountsThoseOfAGiveOfNoneBefore() {
        ClerkRows x = dueAround10();
        due("give", x.give(0, 12), 0);
        due("tick", x.tick(12), 3);
        due("tick", x.tick(12), 0);
    }

    static void tickCountsThoseOfAnAnswerBefore() {
        ClerkRows x = dueAround10();
        due("answer", x.answer(1, 1, 5, 11), 4);
        due("tick", x.tick(11), 2);
        due("tick", x.tick(11), 0);
    }

    static void tickCountsThoseOfAllCallsAndItsOwn() {
        ClerkRows x = dueAround10();
        due("give", x.give(0, 10), 2);
        due("answer", x.answer(1, 1, 5, 11), 4);
        due("tick", x.tick(12), 3);
    }

    static void tickCountsNoneOfTheTickBefore() {
        ClerkRows x = dueAround10();
        due("tick", x.tick(10), 1);
        due("tick", x.tick(11), 1);
        due("tick", x.tick(12), 1);
        due("tick", x.tick(13), 0);
    }

    static void tickCountsThoseBeforeARefusedTick() {
        ClerkRows x = dueAround10();
        due("give", x.give(0, 11), 3);
        due("tick", x.tick(10), OUTSIDE);
        due("tick", x.tick(LAST_TIME + 1), OUTSIDE);
        due("tick", x.tick(11), 2);
    }

    static void tickCountsNoneByRefusedCalls() {
        ClerkRows x = dueAround10();
        due("give", x.give(1, 12), STATE);
        due("answer", x.answer(0, 1, 5, 12), STATE);
        due("tick", x.tick(9), 0);
    }

    // "STATES: 0 it waits (nobody holds it, or not enough), 1 as many hold it or answered as it wants"

    static void stateWithNobody() {
        due("state", Scene.withClerksAndPictures(0, 1, 9).state(1), 0);
    }

    static void stateWithOneHolder() {
        ClerkRows x = Scene.withClerksAndPictures(2, 1, 9);
        Scene.get(x, 0, 1, 0);
        due("state", x.state(1), 0);
    }

    static void stateWithTwoHolders() {
        ClerkRows x = Scene.withClerksAndPictures(2, 1, 9);
        Scene.get(x, 0, 1, 0);
        Scene.get(x, 1, 1, 0);
        due("state", x.state(1), 1);
    }

    static void stateWithOneAnswer() {
        ClerkRows x = Scene.withClerksAndPictures(2, 1, 9);
        due("answer", Scene.getAndAnswer(x, 0, 1, 5, 0), 0);
        due("state", x.state(1), 0);
    }

    static void stateWithOneAnswerAndOneHolder() {
        ClerkRows x = Scene.withClerksAndPictures(2, 1, 9);
        due("answer", Scene.getAndAnswer(x, 0, 1, 5, 0), 0);
        Scene.get(x, 1, 1, 0);
        due("state", x.state(1), 1);
    }

    static void stateWithTwoAnswersThatDiffer() {
        ClerkRows x = Scene.withClerksAndPictures(2, 1, 9);
        due("answer", Scene.answerTwice(x, 1, 5, 6, 0), 0);
        due("state", x.state(1), 0);
    }

    static void stateWithTwoAnswersThatDifferAndOneHolder() {
        ClerkRows x = Scene.withClerksAndPictures(3, 1, 9);
        due("answer", Scene.answerTwice(x, 1, 5, 6, 0), 0);
        Scene.get(x, 2, 1, 0);
        due("state", x.state(1), 1);
        due("leave", x.leave(2), 1);
        due("state", x.state(1), 0);
    }

    // "The entry with which a picture was settled; 0 when it ended otherwise; -1 when it has not ended."

    static void settledOfOneThatHasNotEnded() {
        due("settled", Scene.withClerksAndPictures(0, 1, 9).settled(1), -1);
    }

    static void settledOfOneThatEndedOtherwise() {
        ClerkRows x = Scene.withClerksAndPictures(2, 2, 9);
        due("answer", Scene.answerTwice(x, 1, 0, 0, 0), 3);
        due("unreadable", x.settled(1), 0);
        due("tick", x.tick(10), 1);
        due("late", x.settled(2), 0);
    }

    static void settledStaysWhenTimePasses() {
        ClerkRows x = Scene.withClerksAndPictures(2, 1, 9);
        due("answer", Scene.answerTwice(x, 1, 1, 1, 9), 2);
        due("settled", x.settled(1), 1);
        due("tick", x.tick(LAST_TIME), 0);
        due("settled", x.settled(1), 1);
    }
}
