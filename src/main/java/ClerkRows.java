/**
 * Doubtful pictures given to clerks: by due times and skills, two clerks of different offices, a third
 * one when they differ; pictures that come to an end by equal answers, as unreadable, or too late, once;
 * how often clerks agree.
 */
public final class ClerkRows {
    public static final int UNKNOWN = -101, OUTSIDE = -102, STATE = -103, ROOM = -104;

    private static final int PICTURES = 300;
    private static final int MOST_OPEN = 100;
    private static final int CLERKS = 20;
    private static final int LAST_OFFICE = 4;
    private static final int LAST_SKILL = 3;
    private static final int LAST_ENTRY = 9999;
    private static final long LAST_TIME = 1000000000L;

    private static final int CANNOT_BE_READ = 0;

    // What stands in a turn's entry while there is no answer; both lie outside the entries.
    private static final int HELD = -1;
    private static final int GIVEN_BACK = -2;

    private static final int WAITS = 0;
    private static final int TAKEN = 1;
    private static final int SETTLED = 2;
    private static final int UNREADABLE = 3;
    private static final int LATE = 4;

    private final int mostOpen;
    private final Picture[] pictures = new Picture[PICTURES];
    private final Clerk[] clerks = new Clerk[CLERKS];
    private int made = 0;
    private long now = 0;
    private int lateSinceTick = 0;

    public ClerkRows(int most) {
        mostOpen = Math.max(1, Math.min(MOST_OPEN, most));
        for (int i = 0; i < CLERKS; i++) {
            clerks[i] = new Clerk(i);
        }
    }

    public int picture(long due, int skill) {
        if (!isTime(due) || !isWithin(skill, LAST_SKILL)) {
            return OUTSIDE;
        }
        if (made >= PICTURES) {
            return ROOM;
        }
        if (waiting() >= mostOpen) {
            return 0;
        }
        pictures[made] = new Picture(made + 1, due, skill);
        made++;
        return made;
    }

    public int give(int clerk, long t) {
        Clerk who = findClerk(clerk);
        if (who == null) {
            return UNKNOWN;
        }
        if (!isTime(t)) {
            return OUTSIDE;
        }
        if (!who.in || who.turn != null) {
            return STATE;
        }
        passTo(t);
        Picture given = findGiven(who);
        if (given == null) {
            return 0;
        }
        who.turn = given.addTurn(who);
        return given.number;
    }

    public int answer(int clerk, int picture, int entry, long t) {
        Clerk who = findClerk(clerk);
        Picture what = findPicture(picture);
        if (who == null || what == null) {
            return UNKNOWN;
        }
        if (!isWithin(entry, LAST_ENTRY) || !isTime(t)) {
            return OUTSIDE;
        }
        // A clerk who is not in has no turn: leaving takes it away.
        Turn turn = who.turn;
        if (turn == null || turn.picture != picture) {
            return STATE;
        }
        passTo(t);
        who.turn = null;
        what.takeEntry(turn, entry);
        return what.findState();
    }

    public int office(int clerk, int office, int skill) {
        Clerk who = findClerk(clerk);
        if (who == null) {
            return UNKNOWN;
        }
        if (!isWithin(office, LAST_OFFICE) || !isWithin(skill, LAST_SKILL)) {
            return OUTSIDE;
        }
        if (who.in && who.office == office && who.skill == skill) {
            return 0;
        }
        who.in = true;
        who.office = office;
        who.skill = skill;
        return 1;
    }

    public int leave(int clerk) {
        Clerk who = findClerk(clerk);
        if (who == null) {
            return UNKNOWN;
        }
        if (!who.in) {
            return STATE;
        }
        who.in = false;
        Turn turn = who.turn;
        if (turn == null) {
            return 0;
        }
        turn.entry = GIVEN_BACK;
        who.turn = null;
        return 1;
    }

    public int tick(long t) {
        if (!isTime(t)) {
            return OUTSIDE;
        }
        passTo(t);
        int late = lateSinceTick;
        lateSinceTick = 0;
        return late;
    }

    public int settled(int picture) {
        Picture what = findPicture(picture);
        if (what == null) {
            return UNKNOWN;
        }
        if (!what.hasEnded()) {
            return -1;
        }
        return what.settledWith;
    }

    public int state(int picture) {
        Picture what = findPicture(picture);
        if (what == null) {
            return UNKNOWN;
        }
        return what.findState();
    }

    public long agreement(int a, int b, int side) {
        if (findClerk(a) == null || findClerk(b) == null) {
            return UNKNOWN;
        }
        if (!isWithin(side, 1) || a == b) {
            return OUTSIDE;
        }
        long both = 0;
        long alike = 0;
        for (Picture what : pictures) {
            if (what == null) {
                break;
            }
            int entryOfA = what.findEntry(a);
            int entryOfB = what.findEntry(b);
            if (entryOfA >= 0 && entryOfB >= 0) {
                both++;
                alike += entryOfA == entryOfB ? 1 : 0;
            }
        }
        return side == 1 ? both : alike;
    }

    public int waiting() {
        int open = 0;
        for (Picture what : pictures) {
            if (what == null) {
                break;
            }
            if (!what.hasEnded()) {
                open++;
            }
        }
        return open;
    }

    private static boolean isWithin(int number, int last) {
        return number >= 0 && number <= last;
    }

    private boolean isTime(long t) {
        return t >= now && t <= LAST_TIME;
    }

    private Clerk findClerk(int clerk) {
        return clerk >= 0 && clerk < CLERKS ? clerks[clerk] : null;
    }

    private Picture findPicture(int picture) {
        return picture >= 1 && picture <= PICTURES ? pictures[picture - 1] : null;
    }

    private void passTo(long t) {
        now = t;
        for (Picture what : pictures) {
            if (what == null) {
                break;
            }
            if (!what.hasEnded() && what.due < t) {
                what.end = LATE;
                lateSinceTick++;
            }
        }
    }

    private Picture findGiven(Clerk who) {
        Picture best = null;
        for (Picture what : pictures) {
            if (what == null) {
                break;
            }
            // Only a lesser due time wins, so that of equal ones the least number stays.
            if ((best == null || what.due < best.due) && what.isFreeFor(who)) {
                best = what;
            }
        }
        return best;
    }

    private static final class Clerk {
        final int number;
        boolean in = false;
        int office = 0;
        int skill = 0;
        /** The turn at the picture that the clerk holds, or null. */
        Turn turn = null;

        Clerk(int number) {
            this.number = number;
        }
    }

    /** That one clerk got one picture; it is never taken out, since a clerk gets a picture only once. */
    private static final class Turn {
        final int picture;
        final int clerk;
        /** Where the clerk was on getting it: a later change of office does not count. */
        final int office;
        final Turn earlier;
        int entry = HELD;

        Turn(int picture, Clerk who, Turn earlier) {
            this.picture = picture;
            this.clerk = who.number;
            this.office = who.office;
            this.earlier = earlier;
        }
    }

    private static final class Picture {
        final int number;
        final long due;
        final int skill;
        int wants = 2;
        int answers = 0;
        /** SETTLED, UNREADABLE or LATE; WAITS as long as the picture has not ended. */
        int end = WAITS;
        int settledWith = 0;
        Turn last = null;

        Picture(int number, long due, int skill) {
            this.number = number;
            this.due = due;
            this.skill = skill;
        }

        boolean hasEnded() {
            return end != WAITS;
        }

        int findState() {
            if (hasEnded()) {
                return end;
            }
            return isWanting() ? WAITS : TAKEN;
        }

        boolean isFreeFor(Clerk who) {
            return !hasEnded() && skill <= who.skill && isWanting() && !isBarredBy(who);
        }

        Turn addTurn(Clerk who) {
            last = new Turn(number, who, last);
            return last;
        }

        void takeEntry(Turn turn, int entry) {
            boolean alike = hasEntry(entry);
            turn.entry = entry;
            answers++;
            if (hasEnded()) {
                return;
            }
            if (alike) {
                endAlike(entry);
            } else if (answers == 2) {
                wants = 3;
            } else if (answers > 2) {
                end = UNREADABLE;
            }
        }

        /** The clerk's answer; below 0 if there is none. */
        int findEntry(int clerk) {
            for (Turn turn = last; turn != null; turn = turn.earlier) {
                if (turn.clerk == clerk) {
                    return turn.entry;
                }
            }
            return HELD;
        }

        private void endAlike(int entry) {
            if (entry == CANNOT_BE_READ) {
                end = UNREADABLE;
            } else {
                end = SETTLED;
                settledWith = entry;
            }
        }

        private boolean hasEntry(int entry) {
            for (Turn turn = last; turn != null; turn = turn.earlier) {
                if (turn.entry == entry) {
                    return true;
                }
            }
            return false;
        }

        private boolean isWanting() {
            int taken = 0;
            for (Turn turn = last; turn != null; turn = turn.earlier) {
                if (turn.entry != GIVEN_BACK) {
                    taken++;
                }
            }
            return taken < wants;
        }

        private boolean isBarredBy(Clerk who) {
            for (Turn turn = last; turn != null; turn = turn.earlier) {
                boolean sameOffice = turn.office == who.office && turn.entry != GIVEN_BACK;
                if (turn.clerk == who.number || (sameOffice && wants == 2)) {
                    return true;
                }
            }
            return false;
        }
    }
}
