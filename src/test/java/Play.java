/** What the tests do again and again with a line. */
final class Play {
    static final int FIND = 0;
    static final int WRITE = 1;
    static final int READ = 2;
    static final int ASK = 3;
    static final int TELL = 4;
    static final int ALL = 2000;
    static final int LOW = Integer.MIN_VALUE;
    static final int HIGH = Integer.MAX_VALUE;

    private Play() {
    }

    /** The numbers just outside of a range, and those furthest outside. */
    static int[] outside(int least, int most) {
        return new int[] {LOW, least - 1, most + 1, HIGH};
    }

    /** All that can be seen of a line, without changing it. */
    static String look(FarCacheLine x) {
        StringBuilder seen = new StringBuilder("counts");
        for (int what = 0; what <= 8; what++) {
            seen.append(' ').append(x.count(what));
        }
        for (int end = 0; end <= 1; end++) {
            seen.append("; from ").append(end).append(':').append(bytesFrom(x, end));
        }
        return seen.append(lookAtCalls(x)).toString();
    }

    static String bytesFrom(FarCacheLine x, int end) {
        StringBuilder seen = new StringBuilder();
        for (int k = 0; k < x.count(end); k++) {
            seen.append(' ').append(x.underway(end, k));
        }
        return seen.toString();
    }

    static String lookAtCalls(FarCacheLine x) {
        StringBuilder seen = new StringBuilder();
        for (int call = 0; call < 30 && x.end(call) != -9; call++) {
            seen.append("; call ").append(call).append(lookAt(x, call));
        }
        return seen.toString();
    }

    private static String lookAt(FarCacheLine x, int call) {
        StringBuilder seen = new StringBuilder(" end ");
        seen.append(x.end(call)).append(" about");
        for (int what = 0; what <= 3; what++) {
            seen.append(' ').append(x.about(call, what));
        }
        seen.append(" named");
        for (int i = 0; i <= 3; i++) {
            seen.append(' ').append(x.named(call, i)).append(' ').append(x.missing(call, i));
        }
        seen.append(" got");
        for (int i = 0; i < 60; i++) {
            try {
                seen.append(' ').append(x.got(call, i));
            } catch (ArrayIndexOutOfBoundsException e) {
                break;
            }
        }
        return seen.toString();
    }

    /** So many bytes that differ from those of another seed. */
    static int[] bytes(int size, int seed) {
        int[] row = new int[size];
        for (int i = 0; i < size; i++) {
            row[i] = (seed * 31 + i * 7) & 255;
        }
        return row;
    }

    static long digest(int... row) {
        long d = row.length;
        for (int b : row) {
            d = (d ^ b) * 0x100000001B3L;
        }
        return d;
    }

    static int write(FarCacheLine x, int... row) {
        int call = x.call(WRITE, 0);
        for (int b : row) {
            x.data(call, b);
        }
        return call;
    }

    /** A write that is done: its bytes are a blob. */
    static int stored(FarCacheLine x, int... row) {
        int call = write(x, row);
        run(x, call);
        Due.is("a write that should be done", x.end(call), 1);
        return call;
    }

    static int tell(FarCacheLine x, long action, int... writes) {
        int call = x.call(TELL, action);
        for (int write : writes) {
            x.name(call, write, 0);
        }
        return call;
    }

    static int read(FarCacheLine x, int write) {
        int call = x.call(READ, 0);
        x.name(call, write, 0);
        return call;
    }

    static void run(FarCacheLine x, int call) {
        x.begin(call, 100000);
        settle(x);
    }

    /** Carries both ways till nothing is underway. */
    static void settle(FarCacheLine x) {
        for (int i = 0; i < 50 && x.count(0) + x.count(1) > 0; i++) {
            x.carry(0, ALL);
            x.carry(1, ALL);
        }
    }

    /** A new ask of which so many frames, of 13 bytes each, are underway from the client. */
    static int flood(FarCacheLine x, int frames) {
        int ask = x.call(ASK, 1);
        x.begin(ask, 100000);
        for (int i = 1; i < frames; i++) {
            x.resume(ask);
        }
        return ask;
    }

    static int[] frame(int number, int kind, int place, int... data) {
        int[] frame = new int[5 + data.length];
        frame[0] = 4 + data.length;
        frame[1] = number;
        frame[2] = kind;
        frame[3] = place;
        int sum = frame[0] + number + kind + place;
        for (int i = 0; i < data.length; i++) {
            frame[4 + i] = data[i];
            sum += data[i];
        }
        frame[frame.length - 1] = sum & 255;
        return frame;
    }

    static int[] frameOf(int number, int kind, int place, long value) {
        int[] data = new int[8];
        for (int i = 7; i >= 0; i--) {
            data[i] = (int) (value & 255);
            value >>>= 8;
        }
        return frame(number, kind, place, data);
    }

    /** The bytes underway from an end are just these frames. */
    static void due(String what, FarCacheLine x, int end, int[]... frames) {
        int k = 0;
        for (int f = 0; f < frames.length; f++) {
            for (int i = 0; i < frames[f].length; i++) {
                Due.is(what + ": byte " + i + " of frame " + f, x.underway(end, k), frames[f][i]);
                k++;
            }
        }
        Due.is(what + ": bytes underway", x.count(end), k);
    }

    /** Makes the bytes underway from k on these ones. */
    static void forge(FarCacheLine x, int end, int k, int... wanted) {
        for (int i = 0; i < wanted.length; i++) {
            int mask = x.underway(end, k + i) ^ wanted[i];
            if (mask != 0) {
                Due.yes("a lie", x.lie(end, k + i, mask));
            }
        }
    }

    /**
     * Lets this frame, and nothing else that counts, arrive from an end: the frames of a spare
     * write that is begun (call 0 of the object) are made into it, the rest into frames of no kind.
     */
    static void arrive(FarCacheLine x, int end, int... frame) {
        Due.is("bytes underway ahead of a forged frame", x.count(0) + x.count(1), 0);
        int unit = end == 0 ? 13 : 5;
        x.resume(0);
        if (end == 1) {
            x.carry(0, ALL);
        }
        int size = unit;
        while (size != frame.length && size < frame.length + 5) {
            x.twice(end, 0);
            size += unit;
        }
        forge(x, end, 0, frame);
        if (size > frame.length) {
            forge(x, end, frame.length, frame(0, 9, 0, new int[size - frame.length - 5]));
        }
        Due.is("bytes of a forged frame", x.carry(end, ALL), size);
    }

    /**
     * A new line on which frames can be forged by arrive(): call 0 is a write of 60 bytes that goes
     * on; the server has its partial, empty.
     */
    static FarCacheLine forgeable() {
        FarCacheLine x = new FarCacheLine(40);
        int spare = write(x, bytes(60, 99));
        x.begin(spare, 100000);
        x.cut(13, 0);
        return x;
    }
}
