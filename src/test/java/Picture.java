import java.util.ArrayList;
import java.util.List;

/** All that can be seen of an object: what it tells, what it holds, what undo() and on() bring back. */
final class Picture {
    final long asked, upper, lower, finding;
    final long[] findings = new long[5];
    final List<Long> held = new ArrayList<>();

    /** Undoes what it looks at: the subject is of no use behind it. */
    Picture(Subject s) {
        asked = s.call("asked()");
        upper = s.call("upper()");
        lower = s.call("lower()");
        finding = s.call("finding()");
        for (int f = 1; f <= 5; f++) {
            findings[f - 1] = s.call("findings(" + f + ")");
        }
        for (int what = 0; what <= 11; what++) {
            held.add(s.call("count(" + what + ")"));
        }
        held.add(s.call("pence()"));
        deedByDeed(s);
        for (int k = 0; k <= 2; k++) {
            long deeds = s.call("on(" + k + ")");
            held.add(deeds);
            if (deeds >= 0) {
                deedByDeed(s);
            }
        }
    }

    private void deedByDeed(Subject s) {
        held.add(s.call("digest()"));
        for (long d = s.call("count(2)") - 1; d >= 0; d--) {
            held.add(s.call("undo(" + d + ")"));
            held.add(s.call("digest()"));
        }
    }
}
