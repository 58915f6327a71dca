/** What the tests do again and again with a line. */
final class Play {
    static final int FIND = 0;
    static final int WRITE = 1;
    static final int READ = 2;
    static final int ASK = 3;
    static final int TELL = 4;
    static final int ALL = 2000;

    private Play() {
    }

    /** So many bytes that differ from those of another seed. */
    static int[] bytes(int size, int seed) {
        int[] row = new int[size];
        for (int i = 0; i < size; i++) {
            row[i] = (seed * 31 + i * 7) & 255;
        }
        return row;
    }

    static long digest(int... row) {
        long d = row.length;
        for (int b : row) {
            d = (d ^ b) * 0x100000001B3L;
        }
        return d;
    }

    static int write(FarCacheLine x, int... row) {
        int call = x.call(WRITE, 0);
        for (int b : row) {
            x.data(call, b);
        }
        return call;
    }

    /** A write that is done: its bytes are a blob. */
    static int stored(FarCacheLine x, int... row) {
        int call = write(x, row);
        run(x, call);
        Due.is("a write that should be done", x.end(call), 1);
        return call;
    }

    static int tell(FarCacheLine x, long action, int... writes) {
        int call = x.call(TELL, action);
        for (int write : writes) {
            x.name(call, write, 0);
        }
        return call;
    }

    static int read(FarCacheLine x, int write) {
        int call = x.call(READ, 0);
        x.name(call, write, 0);
        return call;
    }

    static void run(FarCacheLine x, int call) {
        x.begin(call, 100000);
        settle(x);
    }

    /** Carries both ways till nothing is underway. */
    static void settle(FarCacheLine x) {
        for (int i = 0; i < 50 && x.count(0) + x.count(1) > 0; i++) {
            x.carry(0, ALL);
            x.carry(1, ALL);
        }
    }

    static int[] frame(int number, int kind, int place, int... data) {
        int[] frame = new int[5 + data.length];
        frame[0] = 4 + data.length;
        frame[1] = number;
        frame[2] = kind;
        frame[3] = place;
        int sum = frame[0] + number + kind + place;
        for (int i = 0; i < data.length; i++) {
            frame[4 + i] = data[i];
            sum += data[i];
        }
        frame[frame.length - 1] = sum & 255;
        return frame;
    }

    static int[] frameOf(int number, int kind, int place, long value) {
        int[] data = new int[8];
        for (int i = 7; i >= 0; i--) {
            data[i] = (int) (value & 255);
            value >>>= 8;
        }
        return frame(number, kind, place, data);
    }

    /** The bytes underway from an end are just these frames. */
    static void due(String what, FarCacheLine x, int end, int[]... frames) {
        int k = 0;
        for (int f = 0; f < frames.length; f++) {
            for (int i = 0; i < frames[f].length; i++) {
                Due.is(what + ": byte " + i + " of frame " + f, x.underway(end, k), frames[f][i]);
                k++;
            }
        }
        Due.is(what + ": bytes underway", x.count(end), k);
    }

    /** Makes the bytes underway from k on these ones. */
    static void forge(FarCacheLine x, int end, int k, int... wanted) {
        for (int i = 0; i < wanted.length; i++) {
            int mask = x.underway(end, k + i) ^ wanted[i];
            if (mask != 0) {
                Due.yes("a lie", x.lie(end, k + i, mask));
            }
        }
    }

    /**
     * Lets this frame, and nothing else that counts, arrive from an end: the frames of a spare
     * write that is begun (call 0 of the object) are made into it, the rest into frames of no kind.
     */
    static void arrive(FarCacheLine x, int end, int... frame) {
        Due.is("bytes underway ahead of a forged frame", x.count(0) + x.count(1), 0);
        int unit = end == 0 ? 13 : 5;
        x.resume(0);
        if (end == 1) {
            x.carry(0, ALL);
        }
        int size = unit;
        while (size != frame.length && size < frame.length + 5) {
            x.twice(end, 0);
            size += unit;
        }
        forge(x, end, 0, frame);
        if (size > frame.length) {
            forge(x, end, frame.length, frame(0, 9, 0, new int[size - frame.length - 5]));
        }
        Due.is("bytes of a forged frame", x.carry(end, ALL), size);
    }

    /** A new line on which frames can be forged by arrive(): call 0 is a write that goes on. */
    static FarCacheLine forgeable() {
        FarCacheLine x = new FarCacheLine(40);
        int spare = write(x, bytes(60, 99));
        x.begin(spare, 100000);
        x.cut(0, 0);
        return x;
    }
}
