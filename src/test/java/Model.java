import java.util.ArrayList;
import java.util.List;

/**
 * The document's terms once more, as plainly as can be: what happened is kept as a list of givings, and
 * every answer is found by reading it. It shares no idea with the program but the document.
 */
final class Model {
    private static final class Giving {
        int clerk;
        int office;
        boolean back;
        boolean answered;
        int entry;
    }

    private static final class Shown {
        long due;
        int skill;
        int ended; // 0, or the state 2, 3, 4
        int entry;
        final List<Giving> givings = new ArrayList<>();

        List<Giving> standing() {
            List<Giving> all = new ArrayList<>();
            for (Giving g : givings) {
                if (!g.back) {
                    all.add(g);
                }
            }
            return all;
        }

        List<Integer> entries() {
            List<Integer> all = new ArrayList<>();
            for (Giving g : givings) {
                if (g.answered) {
                    all.add(g.entry);
                }
            }
            return all;
        }

        int wants() {
            List<Integer> all = entries();
            return all.size() >= 2 && all.stream().distinct().count() == all.size() ? 3 : 2;
        }
    }

    private final int most;
    private final List<Shown> shown = new ArrayList<>();
    private final int[] office = new int[20];
    private final int[] skill = new int[20];
    private final boolean[] in = new boolean[20];
    private long time = 0;
    private int late = 0;

    Model(int most) {
        this.most = most < 1 ? 1 : most > 100 ? 100 : most;
    }

    private boolean noClerk(int clerk) {
        return clerk < 0 || clerk > 19;
    }

    private boolean noPicture(int picture) {
        return picture < 1 || picture > shown.size();
    }

    private boolean noTime(long t) {
        return t < time || t > 1_000_000_000L;
    }

    private int held(int clerk) {
        for (int i = 0; i < shown.size(); i++) {
            for (Giving g : shown.get(i).givings) {
                if (g.clerk == clerk && !g.back && !g.answered) {
                    return i + 1;
                }
            }
        }
        return 0;
    }

    private Giving givingOf(int clerk, int picture) {
        for (Giving g : shown.get(picture - 1).givings) {
            if (g.clerk == clerk) {
                return g;
            }
        }
        return null;
    }

    private void pass(long t) {
        time = t;
        for (Shown s : shown) {
            if (s.ended == 0 && s.due < t) {
                s.ended = 4;
                late++;
            }
        }
    }

    int picture(long due, int skillOf) {
        if (noTime(due) || skillOf < 0 || skillOf > 3) {
            return -102;
        }
        if (shown.size() == 300) {
            return -104;
        }
        if (waiting() == most) {
            return 0;
        }
        Shown s = new Shown();
        s.due = due;
        s.skill = skillOf;
        shown.add(s);
        return shown.size();
    }

    private boolean free(Shown s, int clerk) {
        if (s.ended != 0 || s.standing().size() >= s.wants() || s.skill > skill[clerk]) {
            return false;
        }
        for (Giving g : s.givings) {
            if (g.clerk == clerk) {
                return false;
            }
        }
        if (s.wants() == 2) {
            for (Giving g : s.standing()) {
                if (g.office == office[clerk]) {
                    return false;
                }
            }
        }
        return true;
    }

    int give(int clerk, long t) {
        if (noClerk(clerk)) {
            return -101;
        }
        if (noTime(t)) {
            return -102;
        }
        if (!in[clerk] || held(clerk) != 0) {
            return -103;
        }
        pass(t);
        int best = 0;
        for (int i = shown.size(); i >= 1; i--) {
            if (free(shown.get(i - 1), clerk)
                && (best == 0 || shown.get(i - 1).due <= shown.get(best - 1).due)) {
                best = i;
            }
        }
        if (best != 0) {
            Giving g = new Giving();
            g.clerk = clerk;
            g.office = office[clerk];
            shown.get(best - 1).givings.add(g);
        }
        return best;
    }

    int answer(int clerk, int picture, int entry, long t) {
        if (noClerk(clerk) || noPicture(picture)) {
            return -101;
        }
        if (entry < 0 || entry > 9999 || noTime(t)) {
            return -102;
        }
        if (!in[clerk] || held(clerk) != picture) {
            return -103;
        }
        pass(t);
        Shown s = shown.get(picture - 1);
        boolean equal = s.entries().contains(entry);
        Giving g = givingOf(clerk, picture);
        g.answered = true;
        g.entry = entry;
        if (s.ended == 0 && equal) {
            s.ended = entry == 0 ? 3 : 2;
            s.entry = entry;
        } else if (s.ended == 0 && s.entries().size() == 3) {
            s.ended = 3;
        }
        return state(picture);
    }

    int office(int clerk, int officeOf, int skillOf) {
        if (noClerk(clerk)) {
            return -101;
        }
        if (officeOf < 0 || officeOf > 4 || skillOf < 0 || skillOf > 3) {
            return -102;
        }
        boolean same = in[clerk] && office[clerk] == officeOf && skill[clerk] == skillOf;
        in[clerk] = true;
        office[clerk] = officeOf;
        skill[clerk] = skillOf;
        return same ? 0 : 1;
    }

    int leave(int clerk) {
        if (noClerk(clerk)) {
            return -101;
        }
        if (!in[clerk]) {
            return -103;
        }
        int picture = held(clerk);
        in[clerk] = false;
        if (picture == 0) {
            return 0;
        }
        givingOf(clerk, picture).back = true;
        return 1;
    }

    int tick(long t) {
        if (noTime(t)) {
            return -102;
        }
        pass(t);
        int told = late;
        late = 0;
        return told;
    }

    int settled(int picture) {
        if (noPicture(picture)) {
            return -101;
        }
        Shown s = shown.get(picture - 1);
        return s.ended == 0 ? -1 : s.entry;
    }

    int state(int picture) {
        if (noPicture(picture)) {
            return -101;
        }
        Shown s = shown.get(picture - 1);
        if (s.ended != 0) {
            return s.ended;
        }
        return s.standing().size() == s.wants() ? 1 : 0;
    }

    long agreement(int a, int b, int side) {
        if (noClerk(a) || noClerk(b)) {
            return -101;
        }
        if (side < 0 || side > 1 || a == b) {
            return -102;
        }
        long count = 0;
        for (int i = 1; i <= shown.size(); i++) {
            Giving one = givingOf(a, i);
            Giving two = givingOf(b, i);
            if (one != null && two != null && one.answered && two.answered
                && (side == 1 || one.entry == two.entry)) {
                count++;
            }
        }
        return count;
    }

    int waiting() {
        int count = 0;
        for (Shown s : shown) {
            count += s.ended == 0 ? 1 : 0;
        }
        return count;
    }

    int pictures() {
        return shown.size();
    }

    int heldBy(int clerk) {
        return noClerk(clerk) ? 0 : held(clerk);
    }

    long time() {
        return time;
    }
}
