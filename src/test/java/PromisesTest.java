/** Each promise by hand-written runs: ordinary inputs, the edges that the document names, wrong inputs. */
public final class PromisesTest {
    private static final int UNKNOWN = -101, OUTSIDE = -102, STATE = -103, ROOM = -104;
    private static final long LAST_TIME = 1_000_000_000L;
    private static final Check CHECK = new Check("PromisesTest");

    public static void main(String[] args) throws IllegalAccessException {
        CHECK.runAll(PromisesTest.class);
        CHECK.end();
    }

    private static void due(String call, long got, long want) {
        CHECK.due(call, got, want);
    }

    private static int placesFor(int most) {
        ClerkRows x = new ClerkRows(most);
        int places = 0;
        for (int i = 0; i < 150 && x.picture(5, 0) > 0; i++) {
            places++;
        }
        return places;
    }

    static void promise1MostIsBroughtToItsBounds() {
        due("most MIN_VALUE", placesFor(Integer.MIN_VALUE), 1);
        due("most -1", placesFor(-1), 1);
        due("most 0", placesFor(0), 1);
        due("most 1", placesFor(1), 1);
        due("most 2", placesFor(2), 2);
        due("most 99", placesFor(99), 99);
        due("most 100", placesFor(100), 100);
        due("most 101", placesFor(101), 100);
        due("most MAX_VALUE", placesFor(Integer.MAX_VALUE), 100);
    }

    static void promise1NobodyIsInAtFirst() {
        ClerkRows x = new ClerkRows(5);
        for (int i = 0; i < 20; i++) {
            due("give at first", x.give(i, 0), STATE);
            due("leave at first", x.leave(i), STATE);
        }
        due("waiting at first", x.waiting(), 0);
        due("tick at first", x.tick(0), 0);
    }

    static void promise2PictureNumbersAndEdges() {
        ClerkRows x = new ClerkRows(5);
        due("due 0", x.picture(0, 0), 1);
        due("due the last time", x.picture(LAST_TIME, 3), 2);
        due("tick", x.tick(7), 1);
        due("due now", x.picture(7, 0), 3);
        due("due before now", x.picture(6, 0), OUTSIDE);
        due("its state", x.state(3), 0);
    }

    static void promise2PictureRefusals() {
        ClerkRows x = new ClerkRows(1);
        due("due -1", x.picture(-1, 0), OUTSIDE);
        due("due above the last time", x.picture(LAST_TIME + 1, 0), OUTSIDE);
        due("due MIN_VALUE", x.picture(Long.MIN_VALUE, 0), OUTSIDE);
        due("due MAX_VALUE", x.picture(Long.MAX_VALUE, 0), OUTSIDE);
        due("due 2^32", x.picture(1L << 32, 0), OUTSIDE);
        due("skill -1", x.picture(1, -1), OUTSIDE);
        due("skill 4", x.picture(1, 4), OUTSIDE);
        due("nothing was made", x.picture(1, 0), 1);
        due("no place", x.picture(1, 0), 0);
        due("OUTSIDE comes before 0", x.picture(-1, 0), OUTSIDE);
        due("OUTSIDE comes before 0", x.picture(1, 4), OUTSIDE);
    }

    static void promise2RoomComesBeforeZero() {
        ClerkRows x = new ClerkRows(100);
        for (int i = 1; i <= 300; i++) {
            due("picture", x.picture((i - 1) / 100, 0), i);
            if (i % 100 == 0 && i < 300) {
                due("no place", x.picture(500, 0), 0);
                due("tick", x.tick(i / 100), 100);
            }
        }
        due("as many as may have not ended", x.waiting(), 100);
        due("ROOM comes before 0", x.picture(500, 0), ROOM);
        due("OUTSIDE comes before ROOM", x.picture(1, 0), OUTSIDE);
        due("tick", x.tick(3), 100);
        due("ROOM stays", x.picture(500, 0), ROOM);
        due("the last picture", x.state(300), 4);
        due("no picture more", x.state(301), UNKNOWN);
    }

    static void promise2EndedPicturesMakePlace() {
        ClerkRows x = Scene.withClerks(1, 3);
        due("picture", x.picture(10, 0), 1);
        due("no place", x.picture(10, 0), 0);
        due("first", Scene.getAndAnswer(x, 0, 1, 5, 0), 0);
        due("no place", x.picture(10, 0), 0);
        due("second", Scene.getAndAnswer(x, 1, 1, 5, 0), 2);
        due("place by settling", x.picture(10, 0), 2);
        due("no place", x.picture(10, 0), 0);
        due("first", Scene.getAndAnswer(x, 0, 2, 0, 0), 0);
        due("second", Scene.getAndAnswer(x, 1, 2, 0, 0), 3);
        due("place by unreadable", x.picture(10, 0), 3);
        due("give lets it end as late", x.give(0, 11), 0);
        due("place by late", x.picture(11, 0), 4);
    }

    static void promise3GiveByDueTimeThenNumber() {
        ClerkRows x = Scene.withClerks(10, 1);
        due("picture", x.picture(30, 0), 1);
        due("picture", x.picture(20, 0), 2);
        due("picture", x.picture(20, 0), 3);
        due("picture", x.picture(10, 0), 4);
        int[] order = {4, 2, 3, 1};
        for (int picture : order) {
            due("in order", Scene.getAndAnswer(x, 0, picture, 1, 0), 0);
        }
        due("none is free", x.give(0, 0), 0);
        due("none is free, and none is held", x.give(0, 0), 0);
    }

    static void promise3GiveBySkill() {
        ClerkRows x = new ClerkRows(10);
        for (int skill = 0; skill <= 3; skill++) {
            due("picture", x.picture(10 - skill, skill), skill + 1);
        }
        for (int skill = 0; skill <= 3; skill++) {
            due("office", x.office(skill, skill, skill), 1);
            due("the hardest that the skill allows", x.give(skill, 0), skill + 1);
        }
        due("office", x.office(4, 4, 0), 1);
        due("an equal skill is enough", x.give(4, 0), 1);
        due("office", x.office(5, 4, 0), 1);
        due("the others are too hard", x.give(5, 0), 0);
        due("more skill", x.office(5, 4, 1), 1);
        due("now one is free", x.give(5, 0), 2);
    }

    static void promise3GiveToDifferentOffices() {
        ClerkRows x = Scene.withClerks(10, 10);
        due("picture", x.picture(10, 0), 1);
        due("the first of office 0", x.give(0, 0), 1);
        due("office 0 holds it", x.give(5, 0), 0);
        due("one answer", x.answer(0, 1, 7, 0), 0);
        due("office 0 answered it", x.give(5, 0), 0);
        due("leave", x.leave(0), 0);
        due("office 0 answered it, still", x.give(5, 0), 0);
        due("office 1", x.give(1, 0), 1);
        due("enough", x.give(2, 0), 0);
        due("given back", x.leave(1), 1);
        due("office 1 does not hold it any more", x.give(6, 0), 1);
    }

    static void promise3OfficeIsTheOneOnGetting() {
        ClerkRows x = Scene.withClerks(10, 7);
        due("picture", x.picture(10, 0), 1);
        due("got in office 0", x.give(0, 0), 1);
        due("moves to office 1", x.office(0, 1, 3), 1);
        due("office 0 is still barred", x.give(5, 0), 0);
        due("answer", x.answer(0, 1, 7, 0), 0);
        due("office 0 is barred by the answer too", x.give(5, 0), 0);
        due("office 1 is not", x.give(6, 0), 1);
        due("leave", x.leave(6), 1);
        due("moves away from office 0", x.office(5, 2, 3), 1);
        due("the asking clerk's office is today's", x.give(5, 0), 1);
    }

    static void promise3ThirdMayBeOfAnyOffice() {
        ClerkRows x = Scene.withClerks(10, 12);
        due("picture", x.picture(10, 0), 1);
        due("first", Scene.getAndAnswer(x, 0, 1, 7, 0), 0);
        due("second", Scene.getAndAnswer(x, 1, 1, 8, 0), 0);
        due("who answered never gets it again", x.give(0, 0), 0);
        due("a third of office 0", x.give(5, 0), 1);
        due("three are enough", x.give(6, 0), 0);
        due("three are enough for other offices", x.give(2, 0), 0);
        due("given back", x.leave(5), 1);
        due("a third of office 1", x.give(6, 0), 1);
    }

    static void promise3NeverTwiceToOneClerk() {
        ClerkRows x = Scene.withClerks(10, 2);
        due("picture", x.picture(10, 0), 1);
        due("give", x.give(0, 0), 1);
        due("leave", x.leave(0), 1);
        due("back in another office", x.office(0, 3, 3), 1);
        due("had it", x.give(0, 0), 0);
        due("another one", x.give(1, 0), 1);
    }

    static void promise3GiveLetsTimePass() {
        ClerkRows x = Scene.withClerks(10, 2);
        due("picture", x.picture(10, 0), 1);
        due("picture", x.picture(20, 0), 2);
        due("due now is not late", x.give(0, 10), 1);
        due("late pictures are not given", x.give(1, 11), 2);
        due("the first is late", x.state(1), 4);
        due("the time was kept", x.tick(10), OUTSIDE);
        due("who holds a late picture holds one", x.give(0, 11), STATE);
        due("tick tells the one that ended by give", x.tick(11), 1);
    }

    static void promise3GiveRefusals() {
        ClerkRows x = Scene.withClerks(10, 1);
        due("clerk -1", x.give(-1, 0), UNKNOWN);
        due("clerk 20", x.give(20, 0), UNKNOWN);
        due("clerk MIN_VALUE", x.give(Integer.MIN_VALUE, 0), UNKNOWN);
        due("clerk MAX_VALUE", x.give(Integer.MAX_VALUE, 0), UNKNOWN);
        due("UNKNOWN comes before OUTSIDE", x.give(20, -1), UNKNOWN);
        due("t -1", x.give(0, -1), OUTSIDE);
        due("t too great", x.give(0, LAST_TIME + 1), OUTSIDE);
        due("t MIN_VALUE", x.give(0, Long.MIN_VALUE), OUTSIDE);
        due("t MAX_VALUE", x.give(0, Long.MAX_VALUE), OUTSIDE);
        due("OUTSIDE comes before STATE", x.give(1, -1), OUTSIDE);
        due("not in", x.give(1, 0), STATE);
        due("clerk 19 is known", x.give(19, 0), STATE);
        due("the last time", x.give(0, LAST_TIME), 0);
    }

    static void promise4EqualAnswersSettle() {
        ClerkRows x = Scene.withClerks(10, 2);
        due("picture", x.picture(10, 0), 1);
        due("give", x.give(0, 0), 1);
        due("give", x.give(1, 0), 1);
        due("one answered, one holds", x.answer(0, 1, 9999, 3), 1);
        due("answered already", x.answer(0, 1, 9999, 3), STATE);
        due("equal, when it is due", x.answer(1, 1, 9999, 10), 2);
        due("settled", x.settled(1), 9999);
        due("never late after its end", x.tick(50), 0);
        due("still settled", x.state(1), 2);
        due("who answered may get another", x.picture(60, 0), 2);
        due("give", x.give(0, 50), 2);
    }

    static void promise4EqualZerosAreUnreadable() {
        ClerkRows x = Scene.withClerks(10, 2);
        due("picture", x.picture(10, 0), 1);
        due("first", Scene.getAndAnswer(x, 0, 1, 0, 0), 0);
        due("second", Scene.getAndAnswer(x, 1, 1, 0, 0), 3);
        due("settled", x.settled(1), 0);
        due("waiting", x.waiting(), 0);
        due("not late after its end", x.tick(50), 0);
        due("state", x.state(1), 3);
    }

    private static void third(int first, int second, int third, int state, int settled) {
        ClerkRows x = Scene.withClerks(10, 4);
        due("picture", x.picture(10, 0), 1);
        due("first", Scene.getAndAnswer(x, 0, 1, first, 0), 0);
        due("second", Scene.getAndAnswer(x, 1, 1, second, 0), 0);
        due("not ended", x.settled(1), -1);
        due("give the third", x.give(2, 0), 1);
        due("three", x.state(1), 1);
        due("third " + first + " " + second + " " + third, x.answer(2, 1, third, 0), state);
        due("settled " + first + " " + second + " " + third, x.settled(1), settled);
        due("waiting", x.waiting(), 0);
        due("no fourth", x.give(3, 0), 0);
    }

    static void promise4ThirdAnswerDecides() {
        third(5, 6, 5, 2, 5);
        third(5, 6, 6, 2, 6);
        third(5, 6, 7, 3, 0);
        third(5, 6, 0, 3, 0);
        third(0, 6, 0, 3, 0);
        third(0, 6, 6, 2, 6);
        third(6, 0, 0, 3, 0);
        third(6, 0, 6, 2, 6);
        third(1, 0, 9999, 3, 0);
    }

    static void promise4LateAnswerIsKept() {
        ClerkRows x = Scene.withClerks(10, 3);
        due("picture", x.picture(10, 0), 1);
        due("give", x.give(0, 0), 1);
        due("give", x.give(1, 0), 1);
        due("in time", x.answer(0, 1, 5, 10), 1);
        due("time passes first", x.answer(1, 1, 5, 11), 4);
        due("it is late", x.state(1), 4);
        due("it is not settled", x.settled(1), 0);
        due("the answer is kept", x.agreement(0, 1, 1), 1);
        due("and like the other", x.agreement(0, 1, 0), 1);
        due("counted once", x.tick(11), 1);
        due("the clerk holds it no more", x.answer(1, 1, 5, 11), STATE);
        due("picture", x.picture(20, 0), 2);
        due("and may get another", x.give(1, 11), 2);

        ClerkRows y = Scene.withClerks(10, 3);
        due("picture", y.picture(10, 0), 1);
        due("first", Scene.getAndAnswer(y, 0, 1, 5, 0), 0);
        due("second", Scene.getAndAnswer(y, 1, 1, 6, 0), 0);
        due("third", y.give(2, 0), 1);
        due("late", y.tick(12), 1);
        due("a third answer too late", y.answer(2, 1, 6, 12), 4);
        due("settled", y.settled(1), 0);
        due("kept", y.agreement(1, 2, 0), 1);
        due("kept", y.agreement(0, 2, 0), 0);
        due("kept", y.agreement(0, 2, 1), 1);
    }

    static void promise4AnswerRefusals() {
        ClerkRows x = Scene.withClerks(10, 2);
        due("picture", x.picture(10, 0), 1);
        due("picture", x.picture(20, 0), 2);
        due("give", x.give(0, 5), 1);
        due("clerk -1", x.answer(-1, 1, 5, 5), UNKNOWN);
        due("clerk 20", x.answer(20, 1, 5, 5), UNKNOWN);
        due("picture 0", x.answer(0, 0, 5, 5), UNKNOWN);
        due("picture -1", x.answer(0, -1, 5, 5), UNKNOWN);
        due("picture 3", x.answer(0, 3, 5, 5), UNKNOWN);
        due("picture MAX_VALUE", x.answer(0, Integer.MAX_VALUE, 5, 5), UNKNOWN);
        due("picture MIN_VALUE", x.answer(0, Integer.MIN_VALUE, 5, 5), UNKNOWN);
        due("UNKNOWN comes before OUTSIDE", x.answer(0, 3, -1, 4), UNKNOWN);
        due("UNKNOWN comes before STATE", x.answer(9, 3, 5, 5), UNKNOWN);
        due("entry -1", x.answer(0, 1, -1, 5), OUTSIDE);
        due("entry -2", x.answer(0, 1, -2, 5), OUTSIDE);
        due("entry 10000", x.answer(0, 1, 10000, 5), OUTSIDE);
        due("t before now", x.answer(0, 1, 5, 4), OUTSIDE);
        due("t too great", x.answer(0, 1, 5, LAST_TIME + 1), OUTSIDE);
        due("OUTSIDE comes before STATE", x.answer(9, 1, 5, 4), OUTSIDE);
        due("OUTSIDE comes before STATE", x.answer(1, 2, 10000, 5), OUTSIDE);
        due("not in", x.answer(9, 1, 5, 5), STATE);
        due("holds none", x.answer(1, 1, 5, 5), STATE);
        due("holds another", x.answer(0, 2, 5, 5), STATE);
        due("leave", x.leave(0), 1);
        due("given back", x.answer(0, 1, 5, 5), STATE);
        due("back in", x.office(0, 0, 3), 1);
        due("given back, still", x.answer(0, 1, 5, 5), STATE);
        due("nothing was answered", x.agreement(0, 1, 1), 0);
    }

    static void promise5OfficeComesAndChanges() {
        ClerkRows x = new ClerkRows(5);
        due("comes in, where a clerk's fields might begin", x.office(0, 0, 0), 1);
        due("was so", x.office(0, 0, 0), 0);
        due("another office", x.office(0, 4, 0), 1);
        due("another skill", x.office(0, 4, 3), 1);
        due("was so", x.office(0, 4, 3), 0);
        due("leave", x.leave(0), 0);
        due("comes again", x.office(0, 4, 3), 1);
        due("the last clerk", x.office(19, 4, 3), 1);
        due("the last clerk was so", x.office(19, 4, 3), 0);
    }

    static void promise5OfficeWhileHolding() {
        ClerkRows x = Scene.withClerks(5, 1);
        due("picture", x.picture(10, 3), 1);
        due("give", x.give(0, 0), 1);
        due("changes", x.office(0, 1, 0), 1);
        due("holds it still", x.give(0, 0), STATE);
        due("may answer it", x.answer(0, 1, 5, 0), 0);
    }

    static void promise5OfficeRefusals() {
        ClerkRows x = new ClerkRows(5);
        due("clerk -1", x.office(-1, 0, 0), UNKNOWN);
        due("clerk 20", x.office(20, 0, 0), UNKNOWN);
        due("UNKNOWN comes before OUTSIDE", x.office(20, 5, 4), UNKNOWN);
        due("office -1", x.office(0, -1, 0), OUTSIDE);
        due("office 5", x.office(0, 5, 0), OUTSIDE);
        due("skill -1", x.office(0, 0, -1), OUTSIDE);
        due("skill 4", x.office(0, 0, 4), OUTSIDE);
        due("office MIN_VALUE", x.office(0, Integer.MIN_VALUE, 0), OUTSIDE);
        due("skill MAX_VALUE", x.office(0, 0, Integer.MAX_VALUE), OUTSIDE);
        due("nobody came in", x.leave(0), STATE);
    }

    static void promise6LeaveGivesBack() {
        ClerkRows x = Scene.withClerks(5, 3);
        due("picture", x.picture(10, 0), 1);
        due("give", x.give(0, 0), 1);
        due("give", x.give(1, 0), 1);
        due("as many as wanted", x.state(1), 1);
        due("leave", x.leave(0), 1);
        due("it waits", x.state(1), 0);
        due("leave with none", x.leave(2), 0);
        due("again", x.leave(0), STATE);
        due("in again", x.office(0, 0, 3), 1);
        due("holds none, and had it", x.give(0, 0), 0);
        due("leave with none", x.leave(0), 0);
        due("answer", x.answer(1, 1, 5, 0), 0);
        due("leave after the answer", x.leave(1), 0);
        due("in", x.office(2, 2, 3), 1);
        due("the answer of one who left counts", Scene.getAndAnswer(x, 2, 1, 5, 0), 2);
    }

    static void promise6LeaveWithALatePicture() {
        ClerkRows x = Scene.withClerks(5, 1);
        due("picture", x.picture(10, 0), 1);
        due("give", x.give(0, 0), 1);
        due("tick", x.tick(11), 1);
        due("it is held still", x.leave(0), 1);
        due("it stays late", x.state(1), 4);
    }

    static void promise6LeaveRefusals() {
        ClerkRows x = new ClerkRows(5);
        due("clerk -1", x.leave(-1), UNKNOWN);
        due("clerk 20", x.leave(20), UNKNOWN);
        due("clerk MIN_VALUE", x.leave(Integer.MIN_VALUE), UNKNOWN);
        due("clerk 19 is not in", x.leave(19), STATE);
    }

    static void promise7TickCountsSinceTheTickBefore() {
        ClerkRows x = Scene.withClerks(10, 2);
        for (int i = 1; i <= 5; i++) {
            due("picture", x.picture(10 * i, 0), i);
        }
        due("nothing is late", x.tick(10), 0);
        due("one is late by give", x.give(0, 11), 2);
        due("one is late by answer", x.answer(0, 2, 5, 21), 4);
        due("a refused tick", x.tick(20), OUTSIDE);
        due("and one by the tick itself", x.tick(31), 3);
        due("counted already", x.tick(31), 0);
        due("the rest", x.tick(LAST_TIME), 2);
        due("no more", x.tick(LAST_TIME), 0);
    }

    static void promise7TickEdges() {
        ClerkRows x = new ClerkRows(10);
        due("t -1", x.tick(-1), OUTSIDE);
        due("t too great", x.tick(LAST_TIME + 1), OUTSIDE);
        due("t MIN_VALUE", x.tick(Long.MIN_VALUE), OUTSIDE);
        due("t MAX_VALUE", x.tick(Long.MAX_VALUE), OUTSIDE);
        due("t 2^32", x.tick(1L << 32), OUTSIDE);
        due("t 0", x.tick(0), 0);
        due("picture", x.picture(LAST_TIME, 0), 1);
        due("the last time", x.tick(LAST_TIME), 0);
        due("due at the last time is never late", x.state(1), 0);
        due("below it", x.tick(LAST_TIME - 1), OUTSIDE);
    }

    static void promise8Settled() {
        ClerkRows x = Scene.withClerks(10, 2);
        due("none", x.settled(1), UNKNOWN);
        due("picture 0", x.settled(0), UNKNOWN);
        due("picture -1", x.settled(-1), UNKNOWN);
        due("picture 301", x.settled(301), UNKNOWN);
        due("picture MIN_VALUE", x.settled(Integer.MIN_VALUE), UNKNOWN);
        due("picture MAX_VALUE", x.settled(Integer.MAX_VALUE), UNKNOWN);
        due("picture", x.picture(10, 0), 1);
        due("not ended", x.settled(1), -1);
        due("no second", x.settled(2), UNKNOWN);
        due("first", Scene.getAndAnswer(x, 0, 1, 1, 0), 0);
        due("not ended", x.settled(1), -1);
        due("second", Scene.getAndAnswer(x, 1, 1, 1, 0), 2);
        due("settled", x.settled(1), 1);
        due("picture", x.picture(10, 0), 2);
        due("tick", x.tick(11), 1);
        due("late", x.settled(2), 0);
    }

    static void promise9State() {
        ClerkRows x = Scene.withClerks(10, 2);
        due("none", x.state(1), UNKNOWN);
        due("picture 0", x.state(0), UNKNOWN);
        due("picture 300", x.state(300), UNKNOWN);
        due("picture MIN_VALUE", x.state(Integer.MIN_VALUE), UNKNOWN);
        due("picture MAX_VALUE", x.state(Integer.MAX_VALUE), UNKNOWN);
        due("picture", x.picture(10, 0), 1);
        due("nobody holds it", x.state(1), 0);
        due("give", x.give(0, 0), 1);
        due("not enough hold it", x.state(1), 0);
        due("give", x.give(1, 0), 1);
        due("enough hold it", x.state(1), 1);
        due("answer", x.answer(1, 1, 2, 0), 1);
        due("one answered, one holds", x.state(1), 1);
        due("leave", x.leave(0), 1);
        due("one answered", x.state(1), 0);
        due("tick", x.tick(11), 1);
        due("late", x.state(1), 4);
    }

    static void promise10Agreement() {
        ClerkRows x = Scene.withClerks(10, 3);
        for (int i = 1; i <= 4; i++) {
            due("picture", x.picture(10 * i, 0), i);
        }
        due("first", Scene.getAndAnswer(x, 0, 1, 5, 0), 0);
        due("second", Scene.getAndAnswer(x, 1, 1, 5, 0), 2);
        due("first", Scene.getAndAnswer(x, 0, 2, 0, 0), 0);
        due("second", Scene.getAndAnswer(x, 1, 2, 0, 0), 3);
        due("first", Scene.getAndAnswer(x, 0, 3, 5, 0), 0);
        due("second", Scene.getAndAnswer(x, 1, 3, 6, 0), 0);
        due("third", Scene.getAndAnswer(x, 2, 3, 6, 0), 2);
        due("both hold", x.give(0, 0), 4);
        due("both hold", x.give(1, 0), 4);
        due("holding is no answer", x.agreement(0, 1, 1), 3);
        due("alike, two that cannot read it too", x.agreement(0, 1, 0), 2);
        due("either way round", x.agreement(1, 0, 0), 2);
        due("with the third", x.agreement(1, 2, 1), 1);
        due("with the third", x.agreement(1, 2, 0), 1);
        due("with the third", x.agreement(2, 0, 1), 1);
        due("with the third", x.agreement(2, 0, 0), 0);
        due("leave", x.leave(0), 1);
        due("leave", x.leave(1), 1);
        due("giving back is no answer", x.agreement(0, 1, 1), 3);
        due("giving back is not alike", x.agreement(0, 1, 0), 2);
        due("of clerks who never came", x.agreement(18, 19, 1), 0);
        due("of clerks who never came", x.agreement(18, 19, 0), 0);
    }

    static void promise10AgreementRefusals() {
        ClerkRows x = new ClerkRows(10);
        due("a -1", x.agreement(-1, 0, 0), UNKNOWN);
        due("a 20", x.agreement(20, 0, 0), UNKNOWN);
        due("b -1", x.agreement(0, -1, 1), UNKNOWN);
        due("b 20", x.agreement(0, 20, 1), UNKNOWN);
        due("UNKNOWN comes before OUTSIDE", x.agreement(20, 20, 2), UNKNOWN);
        due("UNKNOWN comes before OUTSIDE", x.agreement(0, 20, 2), UNKNOWN);
        due("side -1", x.agreement(0, 1, -1), OUTSIDE);
        due("side 2", x.agreement(0, 1, 2), OUTSIDE);
        due("both are the same", x.agreement(19, 19, 0), OUTSIDE);
        due("both are the same", x.agreement(0, 0, 1), OUTSIDE);
    }

    static void promise11Waiting() {
        ClerkRows x = Scene.withClerks(3, 2);
        due("none", x.waiting(), 0);
        due("picture", x.picture(10, 0), 1);
        due("picture", x.picture(20, 0), 2);
        due("picture", x.picture(30, 0), 3);
        due("three", x.waiting(), 3);
        due("refused", x.picture(30, 9), OUTSIDE);
        due("no place", x.picture(30, 0), 0);
        due("three, still", x.waiting(), 3);
        due("give", x.give(0, 0), 1);
        due("give", x.give(1, 0), 1);
        due("held ones have not ended", x.waiting(), 3);
        due("answer", x.answer(0, 1, 5, 0), 1);
        due("answer", x.answer(1, 1, 5, 0), 2);
        due("one is settled", x.waiting(), 2);
        due("one is late", x.give(0, 21), 3);
        due("one", x.waiting(), 1);
        due("tick", x.tick(31), 2);
        due("none", x.waiting(), 0);
        due("an answer to one that has ended", x.answer(0, 3, 5, 31), 4);
        due("none", x.waiting(), 0);
    }

    static void refusedCallsLetNoTimePass() {
        ClerkRows x = Scene.withClerks(3, 1);
        due("picture", x.picture(10, 0), 1);
        due("picture", x.picture(10, 0), 2);
        due("give", x.give(0, 0), 1);
        due("holds one", x.give(0, 100), STATE);
        due("not in", x.give(1, 100), STATE);
        due("unknown clerk", x.give(20, 100), UNKNOWN);
        due("not that one", x.answer(0, 2, 5, 100), STATE);
        due("no such one", x.answer(0, 3, 5, 100), UNKNOWN);
        due("no such entry", x.answer(0, 1, 10000, 100), OUTSIDE);
        due("too great a time", x.tick(LAST_TIME + 1), OUTSIDE);
        due("nothing is late", x.waiting(), 2);
        due("the time is as it was", x.tick(0), 0);
        due("it is held as it was", x.answer(0, 1, 5, 10), 0);
    }
}
