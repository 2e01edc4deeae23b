import java.util.Arrays;

/** A house of counters in planes; what it does is told in the document, DOC.md. */
public final class CounterHouse {
    public static final int UNKNOWN = -1, OUTSIDE = -2, STATE = -3, FULL = -4, NONE = -9;
    public static final long LOST = Long.MIN_VALUE;

    private static final int PLANES = 6, ALL_PLANES = 63, MOST_LAG = 30, MOST_DEAD = 50;
    private static final int STIFF = 0, STRETCHED = 1;
    private static final int MOST_KEPT = 240, MOST_MOMENT = 9999, STRIPS = 16;
    private static final int HORIZON_AT_FIRST = -1000, HORIZON_AT_END = 20000;
    private static final int MOST_SHIFT = 500, MOST_APART = 200;
    private static final int TOLD_ABOVE_TIME = 100, TOLD_ABOVE_SLOPE = 10, TOLD_ABOVE_HORIZON = 2000;

    private static final int SETTINGS = 4, BOUND = 0, WIDTH = 1, FOLD = 2, SLACK = 3;
    private static final int[] LEAST_OF_SETTING = {0, 0, 2, 0};
    private static final int[] MOST_OF_SETTING = {100, 40, 6, 3};
    private static final int[] SETTING_AT_FIRST = {20, 5, 2, 1};

    private final int[] lag;
    private final int[] dead;
    private final int[] manner;
    private final int[] setting;

    /** All kept pulses by their moments; the settled ones are the first of them. */
    private final Row keptRow;
    /** The live ones by their times; the known ones are the first of them. */
    private final Row liveRow;
    /** Room for the known ones once more, when some planes are shifted. */
    private final Row shiftedRow;
    private final Groups groups;
    private final LineSearch search;
    /** The END of each plane. */
    private final int[] deadUntil;
    private int settled;
    private int known;
    private int tooLate;
    private boolean ended;

    public CounterHouse() {
        lag = new int[PLANES];
        dead = new int[PLANES];
        manner = new int[PLANES];
        setting = SETTING_AT_FIRST.clone();
        keptRow = new Row();
        liveRow = new Row();
        shiftedRow = new Row();
        groups = new Groups();
        search = new LineSearch();
        deadUntil = new int[PLANES];
    }

    // ---- 1 planes, pulses

    public int plane(int k, int lag, int dead, int manner) {
        if (!isPlane(k)) return UNKNOWN;
        if (!isWithin(lag, 0, MOST_LAG) || !isWithin(dead, 0, MOST_DEAD)) return OUTSIDE;
        if (!isWithin(manner, STIFF, STRETCHED)) return OUTSIDE;
        if (hasBegun()) return STATE;
        this.lag[k] = lag;
        this.dead[k] = dead;
        this.manner[k] = manner;
        return 1;
    }

    public int ofPlane(int k, int what) {
        if (!isPlane(k)) return UNKNOWN;
        switch (what) {
            case 0: return lag[k];
            case 1: return dead[k];
            case 2: return manner[k];
            case 3: return keptRow.countOf(k, keptRow.size);
            case 4: return liveOf(k);
            case 5: return keptRow.countOf(k, settled) - liveOf(k);
            default: return OUTSIDE;
        }
    }

    public int tune(int which, int v) {
        if (!isWithin(which, 0, SETTINGS - 1)) return OUTSIDE;
        if (!isWithin(v, LEAST_OF_SETTING[which], MOST_OF_SETTING[which])) return OUTSIDE;
        if (hasBegun()) return STATE;
        int before = setting[which];
        setting[which] = v;
        return before;
    }

    public int pulse(int k, int moment, int strip) {
        if (!isPlane(k)) return UNKNOWN;
        if (!isWithin(moment, 0, MOST_MOMENT) || !isStrip(strip)) return OUTSIDE;
        if (ended) return STATE;
        if (moment < horizon()) {
            tooLate++;
            return 0;
        }
        if (keptRow.size >= MOST_KEPT) return FULL;
        keptRow.insert(moment, k, strip);
        follow();
        return 1;
    }

    public int end() {
        if (ended) return STATE;
        int before = settled;
        ended = true;
        follow();
        return settled - before;
    }

    public int anew() {
        int kept = keptRow.size;
        keptRow.size = 0;
        liveRow.size = 0;
        groups.size = 0;
        Arrays.fill(deadUntil, 0);
        settled = 0;
        known = 0;
        tooLate = 0;
        ended = false;
        return kept;
    }

    // ---- 2 groups

    public int group(int k, int what) {
        if (!isGroup(k)) return UNKNOWN;
        int first = groups.endOf(k - 1);
        int end = groups.endOf(k);
        switch (what) {
            case 0: return liveRow.whenAt(first) + TOLD_ABOVE_TIME;
            case 1: return groups.set[k];
            case 2: return end - first;
            case 3: return end - first - Integer.bitCount(groups.set[k]);
            case 4: return liveRow.whenAt(end - 1) - liveRow.whenAt(first);
            default: return OUTSIDE;
        }
    }

    public int member(int k, int plane, int what) {
        if (!isGroup(k) || !isPlane(plane)) return UNKNOWN;
        if (!isWithin(what, 0, 1)) return OUTSIDE;
        int i = liveRow.indexOf(plane, groups.endOf(k - 1), groups.endOf(k));
        if (!liveRow.has(i)) return NONE;
        return what == 0 ? liveRow.when[i] + lag[plane] : liveRow.strip[i];
    }

    public int having(int set, int how) {
        if (!isWithin(set, 0, ALL_PLANES) || !isWithin(how, 0, 2)) return OUTSIDE;
        int count = 0;
        for (int g = 0; g < groups.size; g++) {
            int common = groups.set[g] & set;
            boolean counts = how == 0 ? groups.set[g] == set : common == (how == 1 ? set : 0);
            if (counts) count++;
        }
        return count;
    }

    public int folds(int n) {
        if (!isWithin(n, 1, PLANES)) return OUTSIDE;
        int count = 0;
        for (int g = 0; g < groups.size; g++) {
            if (Integer.bitCount(groups.set[g]) == n) count++;
        }
        return count;
    }

    // ---- 3 chance

    public int shifted(int set, int by) {
        if (!isWithin(set, 0, ALL_PLANES) || !isWithin(by, 0, MOST_SHIFT)) return OUTSIDE;
        if (!ended) return STATE;
        shiftedRow.fillShifted(liveRow, known, set, by);
        int count = 0;
        int first = 0;
        for (int i = 0; i < MOST_KEPT && shiftedRow.has(first); i++) {
            int end = shiftedRow.endOfGroup(first, shiftedRow.size, setting[WIDTH]);
            if (isCoincidence(shiftedRow.planesOf(first, end))) count++;
            first = end;
        }
        return count;
    }

    public int twos(int a, int b, int d) {
        if (!isPlane(a) || !isPlane(b)) return UNKNOWN;
        if (!isWithin(d, -MOST_APART, MOST_APART)) return OUTSIDE;
        if (a == b) return STATE;
        return liveRow.countApart(a, b, d, known);
    }

    public int live(int k) {
        if (!isPlane(k)) return UNKNOWN;
        if (!ended) return STATE;
        return liveTime(k);
    }

    public long rate(int k, int which) {
        if (!isPlane(k) || !isWithin(which, 0, 1) || !ended) return LOST;
        return inLeastTerms(liveOf(k), liveTime(k), which);
    }

    public long expected(int a, int b, int which) {
        if (!isPlane(a) || !isPlane(b) || !isWithin(which, 0, 1)) return LOST;
        if (a == b || !ended) return LOST;
        long upper = (long) liveOf(a) * liveOf(b) * (2 * setting[WIDTH] + 1);
        return inLeastTerms(upper, span(), which);
    }

    // ---- 4 tracks

    public int track(int k, int what) {
        if (!isGroup(k)) return UNKNOWN;
        if (!isWithin(what, 0, 4)) return OUTSIDE;
        if (!groups.hasTrack(k)) return NONE;
        switch (what) {
            case 0: return groups.trackStart[k];
            case 1: return groups.trackSlope[k] + TOLD_ABOVE_SLOPE;
            case 2: return Integer.bitCount(groups.trackSet[k]);
            case 3: return groups.trackSet[k];
            default: return groups.trackMisses[k];
        }
    }

    public int through(int k, int strip) {
        if (!isPlane(k)) return UNKNOWN;
        if (!isStrip(strip)) return OUTSIDE;
        int count = 0;
        for (int g = 0; g < groups.size; g++) {
            int place = groups.trackStart[g] + groups.trackSlope[g] * k;
            if (groups.hasTrack(g) && place == strip) count++;
        }
        return count;
    }

    public int many(int what) {
        switch (what) {
            case 0: return keptRow.size + tooLate;
            case 1: return tooLate;
            case 2: return keptRow.size;
            case 3: return settled;
            case 4: return liveRow.size;
            case 5: return settled - liveRow.size;
            case 6: return known;
            case 7: return groups.size;
            case 8: return coincidences();
            case 9: return groups.pulses();
            case 10: return groups.tracks();
            case 11: return horizon() + TOLD_ABOVE_HORIZON;
            case 12: return edge() + TOLD_ABOVE_HORIZON;
            default: return OUTSIDE;
        }
    }

    // ---- refusals

    private static boolean isWithin(int v, int least, int most) {
        return v >= least && v <= most;
    }

    private static boolean isPlane(int k) {
        return isWithin(k, 0, PLANES - 1);
    }

    private static boolean isStrip(int strip) {
        return isWithin(strip, 0, STRIPS - 1);
    }

    private boolean isGroup(int k) {
        return isWithin(k, 0, groups.size - 1);
    }

    private boolean hasBegun() {
        return keptRow.size > 0 || ended;
    }

    // ---- the run

    private int horizon() {
        if (ended) return HORIZON_AT_END;
        if (keptRow.size == 0) return HORIZON_AT_FIRST;
        return latest() - setting[BOUND];
    }

    private int latest() {
        int last = keptRow.size - 1;
        return keptRow.has(last) ? keptRow.when[last] : -1;
    }

    private int span() {
        return latest() + 1;
    }

    private int edge() {
        int most = 0;
        for (int k = 0; k < PLANES; k++) most = Math.max(most, lag[k]);
        return horizon() - most;
    }

    /**
     * Brings all up to a horizon that may have moved on. What is settled, known or in a shut group stays so: a pulse
     * that is kept later has no moment below the horizon, and so no time below the edge.
     */
    private void follow() {
        settleBelow(horizon());
        int edge = edge();
        while (known < liveRow.size && liveRow.when[known] < edge) known++;
        for (int i = 0; i < MOST_KEPT && nextGroupIsShut(edge); i++) shutGroup();
    }

    private void settleBelow(int horizon) {
        while (settled < keptRow.size && keptRow.when[settled] < horizon) {
            settle(keptRow.when[settled], keptRow.plane[settled], keptRow.strip[settled]);
            settled++;
        }
    }

    private void settle(int moment, int k, int strip) {
        if (!isPlane(k)) return;
        boolean isLive = moment >= deadUntil[k];
        if (isLive) liveRow.insert(moment - lag[k], k, strip);
        if (isLive || manner[k] == STRETCHED) deadUntil[k] = moment + dead[k];
    }

    private boolean nextGroupIsShut(int edge) {
        int first = groups.pulses();
        return first < known && liveRow.whenAt(first) + setting[WIDTH] < edge;
    }

    private void shutGroup() {
        int first = groups.pulses();
        int end = liveRow.endOfGroup(first, known, setting[WIDTH]);
        liveRow.putMemberStrips(first, end, search.strips);
        search.run(setting[SLACK], setting[FOLD]);
        groups.add(end, liveRow.planesOf(first, end), search);
    }

    // ---- counts and fractions

    private int liveOf(int k) {
        return liveRow.countOf(k, liveRow.size);
    }

    private boolean isCoincidence(int set) {
        return Integer.bitCount(set) >= setting[FOLD];
    }

    private int coincidences() {
        int count = 0;
        for (int g = 0; g < groups.size; g++) {
            if (isCoincidence(groups.set[g])) count++;
        }
        return count;
    }

    private int liveTime(int k) {
        boolean stiff = manner[k] == STIFF;
        Row row = stiff ? liveRow : keptRow;
        // the live row holds times, from which the lag is taken off
        int toMoment = stiff ? lag[k] : 0;
        int free = 0;
        int deadUpTo = 0;
        for (int i = 0; i < row.size; i++) {
            if (row.plane[i] != k) continue;
            int moment = row.when[i] + toMoment;
            free += Math.max(0, moment - deadUpTo);
            deadUpTo = moment + dead[k];
        }
        return free + Math.max(0, span() - deadUpTo);
    }

    /** The upper number (which 0) or the lower one of a fraction; LOST without a lower number above 0. */
    private static long inLeastTerms(long upper, long lower, int which) {
        long divisor = greatestDivisor(upper, lower);
        if (lower <= 0 || divisor <= 0) return LOST;
        return (which == 0 ? upper : lower) / divisor;
    }

    private static long greatestDivisor(long a, long b) {
        // Euclid's way takes fewer than a hundred steps for any two longs
        for (int step = 0; step < 100 && b > 0; step++) {
            long rest = a % b;
            a = b;
            b = rest;
        }
        return a;
    }

    /** Pulses in order by when they are (a moment or a time), then plane, then strip. */
    private static final class Row {
        final int[] when;
        final int[] plane;
        final int[] strip;
        int size;

        Row() {
            when = new int[MOST_KEPT];
            plane = new int[MOST_KEPT];
            strip = new int[MOST_KEPT];
        }

        boolean has(int i) {
            return i >= 0 && i < size;
        }

        int whenAt(int i) {
            return has(i) ? when[i] : 0;
        }

        void insert(int w, int p, int s) {
            if (size >= MOST_KEPT) return;
            int i = size;
            while (i > 0 && isBehind(i - 1, w, p, s)) {
                put(i, when[i - 1], plane[i - 1], strip[i - 1]);
                i--;
            }
            put(i, w, p, s);
            size++;
        }

        private boolean isBehind(int i, int w, int p, int s) {
            if (when[i] != w) return when[i] > w;
            if (plane[i] != p) return plane[i] > p;
            return strip[i] > s;
        }

        private void put(int i, int w, int p, int s) {
            when[i] = w;
            plane[i] = p;
            strip[i] = s;
        }

        int countOf(int p, int end) {
            int count = 0;
            for (int i = 0; i < end && has(i); i++) {
                if (plane[i] == p) count++;
            }
            return count;
        }

        /** Of the first ones, how many twos of a pulse of plane p and one of plane q that is d later. */
        int countApart(int p, int q, int d, int end) {
            int count = 0;
            int other = 0;
            for (int i = 0; i < end && has(i); i++) {
                if (plane[i] != p) continue;
                int later = when[i] + d;
                while (other < end && has(other) && when[other] < later) other++;
                for (int j = other; j < end && has(j) && when[j] == later; j++) {
                    if (plane[j] == q) count++;
                }
            }
            return count;
        }

        /** Where the first pulse of a plane is; -1 without one. */
        int indexOf(int p, int from, int end) {
            for (int i = from; i < end && has(i); i++) {
                if (plane[i] == p) return i;
            }
            return -1;
        }

        /** Where the group that begins at first is over, at the latest at end. */
        int endOfGroup(int first, int end, int width) {
            int most = whenAt(first) + width;
            int i = first + 1;
            while (i < end && has(i) && when[i] <= most) i++;
            return i;
        }

        int planesOf(int from, int end) {
            int set = 0;
            for (int i = from; i < end && has(i); i++) set |= 1 << plane[i];
            return set;
        }

        void putMemberStrips(int from, int end, int[] strips) {
            for (int k = 0; k < strips.length; k++) {
                int i = indexOf(k, from, end);
                strips[k] = has(i) ? strip[i] : NONE;
            }
        }

        /**
         * Takes the first ones of another row, those of a set of planes so much later. Of two at one time either may
         * come first: the sets of groups are the same.
         */
        void fillShifted(Row from, int howMany, int set, int by) {
            int end = Math.min(howMany, from.size);
            int others = ALL_PLANES & ~set;
            int still = from.nextOf(others, 0, end);
            int moved = from.nextOf(set, 0, end);
            size = 0;
            while (size < MOST_KEPT && (still < end || moved < end)) {
                if (moved >= end || still < end && from.when[still] <= from.when[moved] + by) {
                    put(size, from.when[still], from.plane[still], from.strip[still]);
                    still = from.nextOf(others, still + 1, end);
                } else {
                    put(size, from.when[moved] + by, from.plane[moved], from.strip[moved]);
                    moved = from.nextOf(set, moved + 1, end);
                }
                size++;
            }
        }

        private int nextOf(int set, int from, int end) {
            int i = from;
            while (i < end && has(i) && (set >> plane[i] & 1) == 0) i++;
            return i;
        }
    }

    /** The shut groups and their tracks. */
    private static final class Groups {
        /** Where a group is over in the live row; the next one begins there. */
        final int[] end;
        final int[] set;
        final int[] trackStart;
        final int[] trackSlope;
        /** The planes of the members with which the track agrees; 0 for no track. */
        final int[] trackSet;
        final int[] trackMisses;
        int size;

        Groups() {
            end = new int[MOST_KEPT];
            set = new int[MOST_KEPT];
            trackStart = new int[MOST_KEPT];
            trackSlope = new int[MOST_KEPT];
            trackSet = new int[MOST_KEPT];
            trackMisses = new int[MOST_KEPT];
        }

        void add(int over, int planes, LineSearch found) {
            if (size >= MOST_KEPT) return;
            end[size] = over;
            set[size] = planes;
            trackStart[size] = found.start;
            trackSlope[size] = found.slope;
            trackSet[size] = found.set;
            trackMisses[size] = found.misses;
            size++;
        }

        /** 0 for the one ahead of the first. */
        int endOf(int g) {
            return g >= 0 && g < size ? end[g] : 0;
        }

        int pulses() {
            return endOf(size - 1);
        }

        boolean hasTrack(int g) {
            return trackSet[g] != 0;
        }

        int tracks() {
            int count = 0;
            for (int g = 0; g < size; g++) {
                if (hasTrack(g)) count++;
            }
            return count;
        }
    }

    /** The search for the line that agrees with the most members of one group. */
    private static final class LineSearch {
        // of lines that are as good the first one found is taken, so their order is the document's
        private static final int[] SLOPES = {0, -1, 1, -2, 2, -3, 3};

        /** The strip of the member of each plane; NONE without one. */
        final int[] strips;
        int start;
        int slope;
        /** The planes of the members with which the line agrees; 0 if they are too few. */
        int set;
        int misses;

        LineSearch() {
            strips = new int[PLANES];
        }

        void run(int slack, int fold) {
            set = 0;
            misses = 0;
            for (int s : SLOPES) {
                for (int a = 0; a < STRIPS; a++) weigh(a, s, slack);
            }
            if (Integer.bitCount(set) < fold) set = 0;
        }

        private void weigh(int a, int b, int slack) {
            int agreed = 0;
            int missed = 0;
            for (int k = 0; k < PLANES; k++) {
                if (strips[k] == NONE) continue;
                int miss = Math.abs(a + b * k - strips[k]);
                if (miss > slack) continue;
                agreed |= 1 << k;
                missed += miss;
            }
            int more = Integer.bitCount(agreed) - Integer.bitCount(set);
            if (more > 0 || more == 0 && missed < misses) take(a, b, agreed, missed);
        }

        private void take(int a, int b, int agreed, int missed) {
            start = a;
            slope = b;
            set = agreed;
            misses = missed;
        }
    }
}
