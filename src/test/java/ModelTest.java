import java.util.Random;

/** Long random runs, each of at most 512 calls, whose every answer is held against the model. */
public final class ModelTest {
    private static final int RUNS = 3000;
    private static final int MOST_CALLS = 512;
    private static final int[] STRANGE = {Integer.MIN_VALUE, -2, -1, 0, 1, 2, 3, 4, 5, 7, 8, 9, 29, 30, 31, 59, 60, 61,
        100, 101, 255, 256, 1000, 1001, 2000, 100000, 100001, 1000000, Integer.MAX_VALUE - 1, Integer.MAX_VALUE};

    private final Random random;
    private final FarCacheLine x;
    private final Model model;
    private final String run;
    /** How likely a run changes bytes, loses and doubles frames, in percent. */
    private final int trouble;
    private int calls;

    private ModelTest(int seed) {
        random = new Random(seed);
        int piece = random.nextInt(10) == 0 ? strange() : 8 + random.nextInt(33);
        x = new FarCacheLine(piece);
        model = new Model(piece);
        run = "run " + seed + ", piece " + piece;
        trouble = new int[] {0, 3, 10, 30}[random.nextInt(4)];
    }

    public static void main(String[] args) {
        for (int seed = 1; seed <= RUNS; seed++) {
            new ModelTest(seed).play();
        }
        Due.close();
    }

    private void play() {
        while (calls < MOST_CALLS) {
            if (random.nextInt(100) < trouble) {
                makeTrouble();
            } else if (random.nextInt(100) < 4) {
                askStrangely();
            } else {
                goOn();
            }
        }
    }

    private void is(String what, long got, long want) {
        calls++;
        Due.is(run + ", call " + calls + ": " + what, got, want);
    }

    private int strange() {
        return STRANGE[random.nextInt(STRANGE.length)];
    }

    private int someCall() {
        return model.calls() == 0 ? 0 : random.nextInt(model.calls());
    }

    private int newCall(int kind) {
        long action = random.nextInt(14);
        int number = model.call(kind, action);
        is("call " + kind, x.call(kind, action), number);
        return number;
    }

    private void goOn() {
        int what = random.nextInt(20);
        if (what < 2) {
            startWrite();
        } else if (what < 4) {
            startOther(new int[] {0, 2, 3, 4}[random.nextInt(4)]);
        } else if (what < 12) {
            carry(random.nextInt(2), random.nextInt(4) == 0 ? random.nextInt(40) : 2000);
        } else if (what < 13) {
            resume(someCall());
        } else if (what < 15) {
            tick(random.nextInt(30) == 0 ? 1000 : random.nextInt(4));
        } else if (what < 16) {
            smallThings();
        } else {
            look();
        }
    }

    private void startWrite() {
        int write = newCall(1);
        int size = random.nextInt(4) == 0 ? random.nextInt(62) : random.nextInt(12);
        int values = 1 + random.nextInt(3);
        for (int i = 0; i < size; i++) {
            int b = random.nextInt(values) + (random.nextInt(8) == 0 ? 250 : 0);
            is("data", x.data(write, b), model.data(write, b));
        }
        if (random.nextInt(10) == 0) {
            long xor = random.nextInt(3);
            is("name a write", x.name(write, write, xor), model.name(write, write, xor));
        }
        if (random.nextInt(8) != 0) {
            begin(write);
        }
    }

    private void startOther(int kind) {
        int call = newCall(kind);
        int names = random.nextInt(6);
        for (int i = 0; i < names; i++) {
            int write = someCall();
            long xor = random.nextInt(6) == 0 ? random.nextLong() : 0;
            is("name", x.name(call, write, xor), model.name(call, write, xor));
        }
        begin(call);
    }

    private void begin(int call) {
        int deadline = random.nextInt(4) == 0 ? 1 + random.nextInt(10) : 1 + random.nextInt(100000);
        is("begin", x.begin(call, deadline) ? 1 : 0, model.begin(call, deadline) ? 1 : 0);
    }

    private void carry(int end, int n) {
        is("carry " + end + ", " + n, x.carry(end, n), model.carry(end, n));
    }

    private void resume(int call) {
        is("resume " + call, x.resume(call), model.resume(call));
    }

    private void tick(int n) {
        is("tick " + n, x.tick(n), model.tick(n));
    }

    private void smallThings() {
        int n = random.nextInt(4);
        int call = someCall();
        if (random.nextInt(2) == 0) {
            is("busy " + n, x.busy(n) ? 1 : 0, model.busy(n) ? 1 : 0);
        } else {
            is("forget " + call, x.forget(call) ? 1 : 0, model.forget(call) ? 1 : 0);
        }
    }

    private void look() {
        int call = someCall();
        int i = random.nextInt(6);
        switch (random.nextInt(8)) {
            case 0 -> is("end " + call, x.end(call), model.end(call));
            case 1 -> got(call, random.nextInt(30));
            case 2 -> is("named " + call + ", " + i, x.named(call, i), model.named(call, i));
            case 3 -> is("missing " + call + ", " + i, x.missing(call, i), model.missing(call, i));
            case 4 -> is("about " + call + ", " + i, x.about(call, i), model.about(call, i));
            case 5, 6 -> count(random.nextInt(9));
            default -> underway(random.nextInt(2), random.nextInt(60));
        }
    }

    private void count(int what) {
        is("count " + what, x.count(what), model.count(what));
    }

    private void underway(int end, int k) {
        is("underway " + end + ", " + k, x.underway(end, k), model.underway(end, k));
    }

    private void got(int call, int i) {
        int got;
        try {
            got = x.got(call, i);
        } catch (ArrayIndexOutOfBoundsException e) {
            got = -2;
        }
        is("got " + call + ", " + i, got, model.got(call, i));
    }

    private void lie(int end, int k, int mask) {
        is("lie " + end + ", " + k + ", " + mask, x.lie(end, k, mask) ? 1 : 0, model.lie(end, k, mask) ? 1 : 0);
    }

    private void makeTrouble() {
        int end = random.nextInt(2);
        int i = random.nextInt(model.count(2 + end) + 1);
        switch (random.nextInt(12)) {
            case 0, 1 -> is("lose " + end + ", " + i, x.lose(end, i) ? 1 : 0, model.lose(end, i) ? 1 : 0);
            case 2, 3 -> is("twice " + end + ", " + i, x.twice(end, i) ? 1 : 0, model.twice(end, i) ? 1 : 0);
            case 4 -> lie(end, random.nextInt(60), 1 << random.nextInt(9));
            case 5 -> cut(random.nextInt(60), random.nextInt(60));
            case 6 -> flood();
            default -> forge(end, i);
        }
    }

    private void cut(int n, int m) {
        is("cut " + n + ", " + m, x.cut(n, m), model.cut(n, m));
    }

    /** So many frames that there is no room for some. */
    private void flood() {
        int call = someCall();
        int end = random.nextInt(2);
        for (int i = 0; i < 60; i++) {
            resume(call);
            if (model.count(2 + end) > 0) {
                int frame = random.nextInt(model.count(2 + end));
                is("twice", x.twice(end, frame) ? 1 : 0, model.twice(end, frame) ? 1 : 0);
            }
        }
        count(7);
    }

    /** A byte of a frame is changed and its sum too, so that the frame counts. */
    private void forge(int end, int i) {
        if (i >= model.count(2 + end)) {
            return;
        }
        int start = model.startOf(end, i);
        int size = model.sizeOf(end, i);
        int at = random.nextInt(3) == 0 ? random.nextInt(size - 1) : 1 + random.nextInt(3);
        int old = model.underway(end, start + at);
        int wanted = switch (at) {
            case 0 -> random.nextInt(50);
            case 1 -> random.nextInt(33);
            case 2 -> random.nextInt(15);
            case 3 -> Math.max(0, old + random.nextInt(5) - 2);
            default -> random.nextInt(6);
        };
        int sum = model.underway(end, start + size - 1);
        lie(end, start + at, old ^ wanted);
        lie(end, start + size - 1, sum ^ (sum - old + wanted));
    }

    private void askStrangely() {
        int a = strange();
        int b = random.nextInt(3) == 0 ? strange() : someCall();
        int c = strange();
        switch (random.nextInt(20)) {
            case 0 -> is("call " + a, x.call(a, b), model.call(a, b));
            case 1 -> is("data " + b + ", " + a, x.data(b, a), model.data(b, a));
            case 2 -> is("name " + a + ", " + b, x.name(a, b, c), model.name(a, b, c));
            case 3 -> is("begin " + b + ", " + a, x.begin(b, a) ? 1 : 0, model.begin(b, a) ? 1 : 0);
            case 4 -> carry(a, c);
            case 5 -> cut(a, c);
            case 6 -> is("lose " + a + ", " + c, x.lose(a, c) ? 1 : 0, model.lose(a, c) ? 1 : 0);
            case 7 -> is("twice " + a + ", " + c, x.twice(a, c) ? 1 : 0, model.twice(a, c) ? 1 : 0);
            case 8 -> lie(a, c, b);
            case 9 -> underway(a, c);
            case 10 -> resume(a);
            case 11 -> tick(a);
            case 12 -> is("end " + a, x.end(a), model.end(a));
            case 13 -> got(b, a);
            case 14 -> is("named " + b + ", " + a, x.named(b, a), model.named(b, a));
            case 15 -> is("missing " + b + ", " + a, x.missing(b, a), model.missing(b, a));
            case 16 -> is("about " + b + ", " + a, x.about(b, a), model.about(b, a));
            case 17 -> is("busy " + a, x.busy(a) ? 1 : 0, model.busy(a) ? 1 : 0);
            case 18 -> is("forget " + a, x.forget(a) ? 1 : 0, model.forget(a) ? 1 : 0);
            default -> count(a);
        }
    }
}
