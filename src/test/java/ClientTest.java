import java.util.Arrays;

/** What the client does by the kind of a frame and of its call, with frames that no server would send too. */
public final class ClientTest {
    private ClientTest() {
    }

    public static void main(String[] args) {
        takesAnswersOfAFind();
        endsWritesAndTells();
        goesOnWithAWrite();
        takesPiecesOfARead();
        endsReads();
        takesDigestsOfAnAsk();
        takesErrors();
        waitsAnew();
        endedCallsTakeNothing();
        otherKindsAreNothing();
        triesAgainByTheClock();
        deadlinesComeFirst();
        goesOnAfterCuts();
        Due.close();
    }

    private static int begun(FarCacheLine x, int kind, int... writes) {
        int call = x.call(kind, 5);
        for (int write : writes) {
            x.name(call, write, 0);
        }
        x.begin(call, 100000);
        x.cut(0, 0);
        return call;
    }

    private static void takesAnswersOfAFind() {
        FarCacheLine x = Play.forgeable();
        int find = begun(x, Play.FIND, 0, 0, 0);
        Play.arrive(x, 1, Play.frame(find, 10, 3, 1));
        Due.is("a place that it doesn't name", x.about(find, 2), 0);
        Play.arrive(x, 1, Play.frame(find, 10, 1));
        Play.arrive(x, 1, Play.frame(find, 10, 1, 0, 0));
        Due.is("not just one byte", x.about(find, 2), 0);
        Play.arrive(x, 1, Play.frame(find, 10, 1, 0));
        Due.is("one answer", x.about(find, 2), 1);
        Play.arrive(x, 1, Play.frame(find, 10, 1, 1));
        Due.is("answered already", x.about(find, 2), 1);
        Due.is("the first answer counts", x.missing(find, 0), 1);
        Play.arrive(x, 1, Play.frame(find, 10, 0, 200));
        Due.is("any byte but 0", x.missing(find, 0), 1);
        Due.is("goes on", x.end(find), 0);
        Play.arrive(x, 1, Play.frame(find, 10, 2, 0));
        Due.is("all are answered", x.end(find), 1);
        Due.is("missing", x.missing(find, 1), 2);
    }

    private static void endsWritesAndTells() {
        FarCacheLine x = Play.forgeable();
        int[] calls = {begun(x, Play.FIND, 0), begun(x, Play.WRITE), begun(x, Play.READ, 0), begun(x, Play.ASK),
            begun(x, Play.TELL, 0)};
        for (int kind = 0; kind <= 4; kind++) {
            Play.arrive(x, 1, Play.frame(calls[kind], 11, 33, 1, 2, 3));
            Due.is("kind 11 for a call of kind " + kind, x.end(calls[kind]), kind == 1 || kind == 4 ? 1 : 0);
        }
    }

    private static void goesOnWithAWrite() {
        FarCacheLine x = Play.forgeable();
        int[] row = Play.bytes(45, 2);
        int write = Play.write(x, row);
        x.begin(write, 99);
        x.cut(0, 0);
        int[] end = Play.frame(write, 8, 45);
        Play.arrive(x, 1, Play.frame(write, 12, 3));
        Play.due("from 3 on", x, 0, Play.frame(write, 7, 3, Arrays.copyOfRange(row, 3, 43)),
                Play.frame(write, 7, 43, row[43], row[44]), end);
        x.cut(0, 0);
        Play.arrive(x, 1, Play.frame(write, 12, 44, 7, 7));
        Play.due("its data doesn't count", x, 0, Play.frame(write, 7, 44, row[44]), end);
        x.cut(0, 0);
        Play.arrive(x, 1, Play.frame(write, 12, 45));
        Play.due("from just its end on", x, 0, end);
        x.cut(0, 0);
        Play.arrive(x, 1, Play.frame(write, 12, 46));
        Due.is("above how many it has: nothing", x.count(0), 0);
        Play.arrive(x, 1, Play.frame(write, 12, 255));
        Due.is("nothing", x.count(0), 0);
        Due.is("it goes on", x.end(write), 0);
        int read = begun(x, Play.READ, 0);
        Play.arrive(x, 1, Play.frame(read, 12, 0));
        Due.is("a read has nothing to send", x.count(0), 0);
        int unbegun = Play.write(x, 1);
        Play.arrive(x, 1, Play.frame(unbegun, 12, 0));
        Due.is("nor has one that wasn't begun", x.count(0), 0);
    }

    private static void takesPiecesOfARead() {
        FarCacheLine x = Play.forgeable();
        int read = begun(x, Play.READ, 0);
        Play.arrive(x, 1, Play.frame(read, 7, 1, 5));
        Due.is("a later place", x.about(read, 2), 0);
        Play.arrive(x, 1, Play.frame(read, 7, 0));
        Due.is("no bytes", x.about(read, 2), 0);
        Play.arrive(x, 1, Play.frame(read, 7, 0, new int[25]));
        Play.arrive(x, 1, Play.frame(read, 7, 0, new int[1]));
        Due.is("once", x.about(read, 2), 25);
        Play.arrive(x, 1, Play.frame(read, 7, 25, new int[36]));
        Due.is("61 in all", x.about(read, 2), 25);
        int[] more = new int[35];
        more[34] = 250;
        Play.arrive(x, 1, Play.frame(read, 7, 25, more));
        Due.is("60 in all", x.about(read, 2), 60);
        Due.is("the last one", x.got(read, 59), 250);
        Play.arrive(x, 1, Play.frame(read, 7, 60, 1));
        Due.is("no more", x.about(read, 2), 60);
        Due.is("it goes on", x.end(read), 0);
        Due.is("and doesn't wait", x.about(read, 1), 0);
    }

    private static void endsReads() {
        FarCacheLine x = Play.forgeable();
        int write = Play.write(x, 5, 6);
        int read = begun(x, Play.READ, write);
        Play.arrive(x, 1, Play.frame(read, 8, 2));
        Due.is("another place: it waits", x.about(read, 0), 1);
        Due.is("and goes on", x.end(read), 0);
        Play.arrive(x, 1, Play.frame(read, 7, 0, 5, 6));
        Play.arrive(x, 1, Play.frame(read, 8, 2, 1, 1));
        Due.is("its data doesn't count: done", x.end(read), 1);
        Due.is("it doesn't wait any more", x.about(read, 0), 0);
        Due.is("its tries stay", x.about(read, 1), 1);
        int differs = begun(x, Play.READ, write);
        Play.arrive(x, 1, Play.frame(differs, 7, 0, 5, 7));
        Play.arrive(x, 1, Play.frame(differs, 8, 2));
        Due.is("differs", x.end(differs), -3);
        Due.is("its bytes stay", x.got(differs, 1), 7);
        int short1 = begun(x, Play.READ, write);
        Play.arrive(x, 1, Play.frame(short1, 8, 0));
        Due.is("no bytes differ too", x.end(short1), -3);
        int bare = begun(x, Play.READ);
        Play.arrive(x, 1, Play.frame(bare, 8, 0));
        Due.is("without a digest: 0 is that of no bytes", x.end(bare), 1);
        int bare2 = begun(x, Play.READ);
        Play.arrive(x, 1, Play.frame(bare2, 7, 0, 2));
        Play.arrive(x, 1, Play.frame(bare2, 8, 1));
        Due.is("and not that of a byte 2", x.end(bare2), -3);
        int bare3 = begun(x, Play.READ);
        Play.arrive(x, 1, Play.frame(bare3, 7, 0, 1));
        Play.arrive(x, 1, Play.frame(bare3, 8, 1));
        Due.is("but that of a byte 1 is 0 too", x.end(bare3), 1);
    }

    private static void takesDigestsOfAnAsk() {
        FarCacheLine x = Play.forgeable();
        int ask = begun(x, Play.ASK);
        Play.arrive(x, 1, Play.frameOf(ask, 5, 1, 11));
        Due.is("a later place", x.about(ask, 2), 0);
        Play.arrive(x, 1, Play.frame(ask, 5, 0, new int[7]));
        Play.arrive(x, 1, Play.frame(ask, 5, 0, new int[9]));
        Due.is("not just eight bytes", x.about(ask, 2), 0);
        for (int i = 0; i < 3; i++) {
            Play.arrive(x, 1, Play.frameOf(ask, 5, i, -7 - i));
            Due.is("has come", x.named(ask, i), -7 - i);
        }
        Play.arrive(x, 1, Play.frameOf(ask, 5, 3, 11));
        Due.is("three at most", x.about(ask, 2), 3);
        Play.arrive(x, 1, Play.frame(ask, 6, 2));
        Due.is("another place: it waits", x.about(ask, 0), 1);
        Play.arrive(x, 1, Play.frame(ask, 6, 4));
        Due.is("and anew", x.about(ask, 0), 2);
        x.tick(2);
        Due.is("it is opened: what has come is none again", x.about(ask, 2), 0);
        Due.is("none", x.named(ask, 0), 0);
        x.cut(0, 0);
        Play.arrive(x, 1, Play.frameOf(ask, 5, 0, 4));
        Play.arrive(x, 1, Play.frame(ask, 6, 1, 5, 5));
        Due.is("done", x.end(ask), 1);
        Due.is("what has come stays", x.named(ask, 0), 4);
    }

    private static void takesErrors() {
        for (int kind = 0; kind <= 4; kind++) {
            for (int reason : new int[] {0, 1, 2, 3, 4, 5, 9, 255}) {
                FarCacheLine x = Play.forgeable();
                int call = kind == 1 ? begun(x, kind) : begun(x, kind, 0);
                Play.arrive(x, 1, Play.frame(call, 13, 0));
                Play.arrive(x, 1, Play.frame(call, 13, 0, reason, reason));
                Due.is("not just one byte", x.end(call), 0);
                Due.is("no try", x.about(call, 1), 0);
                Play.arrive(x, 1, Play.frame(call, 13, 66, reason));
                Due.is("kind " + kind + ", reason " + reason, x.end(call), reason >= 2 && reason <= 4 ? -reason : 0);
                Due.is("kind " + kind + ", reason " + reason, x.about(call, 1), reason == 1 ? 1 : 0);
                Due.is("kind " + kind + ", reason " + reason, x.about(call, 0), reason == 1 ? 1 : 0);
            }
        }
    }

    private static void waitsAnew() {
        FarCacheLine x = Play.forgeable();
        int ask = begun(x, Play.ASK);
        int[] ticks = {1, 2, 4, 8};
        for (int i = 0; i < 4; i++) {
            Play.arrive(x, 1, Play.frame(ask, 13, 0, 1));
            Due.is("waits anew", x.about(ask, 0), ticks[i]);
            Due.is("with one try more", x.about(ask, 1), i + 1);
        }
        x.tick(3);
        Due.is("three ticks less", x.about(ask, 0), 5);
        Play.arrive(x, 1, Play.frame(ask, 13, 0, 1));
        Due.is("gave up", x.end(ask), -5);
        Due.is("and doesn't wait", x.about(ask, 0), 0);
        Due.is("five tries", x.about(ask, 1), 5);
        x.tick(100);
        Due.is("nothing is sent", x.count(0), 0);
    }

    private static void endedCallsTakeNothing() {
        FarCacheLine x = Play.forgeable();
        int late = x.call(Play.READ, 0);
        x.name(late, 0, 0);
        x.begin(late, 1);
        x.cut(0, 0);
        x.tick(1);
        Play.arrive(x, 1, Play.frame(late, 7, 0, 1, 2));
        Due.is("no bytes", x.about(late, 2), 0);
        Play.arrive(x, 1, Play.frame(late, 13, 0, 1));
        Due.is("no tries", x.about(late, 1), 0);
        Play.arrive(x, 1, Play.frame(late, 13, 0, 2));
        Due.is("stays too late", x.end(late), -1);
        int write = begun(x, Play.WRITE);
        Play.arrive(x, 1, Play.frame(write, 13, 0, 1));
        Due.is("it waits", x.about(write, 0), 1);
        Play.arrive(x, 1, Play.frame(write, 11, 0));
        Due.is("done", x.end(write), 1);
        Due.is("it doesn't wait any more", x.about(write, 0), 0);
        x.tick(5);
        Due.is("nor is it opened", x.count(0), 0);
        int unbegun = Play.write(x, 1);
        Play.arrive(x, 1, Play.frame(unbegun, 11, 0));
        Due.is("one that wasn't begun", x.end(unbegun), 0);
        Due.yes("it can be begun", x.begin(unbegun, 1));
    }

    private static void otherKindsAreNothing() {
        FarCacheLine x = Play.forgeable();
        int[] calls = {begun(x, Play.FIND, 0), begun(x, Play.WRITE), begun(x, Play.READ, 0), begun(x, Play.ASK),
            begun(x, Play.TELL, 0)};
        for (int frameKind : new int[] {0, 1, 2, 3, 4, 9, 14, 255}) {
            int call = calls[frameKind % 5];
            Play.arrive(x, 1, Play.frame(call, frameKind, 0, 1));
            Due.is("frame of kind " + frameKind, x.end(call), 0);
            Due.is("frame of kind " + frameKind, x.about(call, 2) + x.about(call, 1), 0);
            Due.is("frame of kind " + frameKind, x.count(0), 0);
        }
        int[][] others = {{0, 5}, {0, 6}, {0, 7}, {0, 8}, {0, 12}, {1, 7}, {1, 8}, {1, 10}, {2, 6}, {2, 10}, {3, 7},
            {3, 8}, {3, 10}, {4, 6}, {4, 8}, {4, 10}, {4, 12}};
        FarCacheLine y = new FarCacheLine(8);
        for (int[] other : others) {
            y = Play.forgeable();
            int call = other[0] == 1 ? begun(y, 1) : begun(y, other[0], 0);
            Play.arrive(y, 1, Play.frame(call, other[1], 3, 1));
            String what = "a call of kind " + other[0] + ", a frame of kind " + other[1];
            Due.is(what, y.end(call), 0);
            Due.is(what, y.about(call, 2) + y.about(call, 1), 0);
            Due.is(what, y.count(0), 0);
        }
    }

    private static void triesAgainByTheClock() {
        FarCacheLine x = Play.forgeable();
        int tell = begun(x, Play.TELL, 0);
        int ask = begun(x, Play.ASK);
        Play.arrive(x, 1, Play.frame(ask, 13, 0, 1));
        Play.arrive(x, 1, Play.frame(tell, 13, 0, 1));
        x.tick(1);
        Play.due("opened by numbers", x, 0,
                Play.frameOf(tell, 4, 0, 5),
                Play.frameOf(tell, 5, 0, Play.digest(Play.bytes(60, 99))),
                Play.frame(tell, 6, 1),
                Play.frameOf(ask, 3, 0, 5));
        x.tick(1000);
        Due.is("once", x.count(2), 4);
        x.cut(0, 0);
        Play.arrive(x, 1, Play.frame(ask, 13, 0, 1));
        Play.arrive(x, 1, Play.frame(tell, 13, 0, 1));
        Play.arrive(x, 1, Play.frame(tell, 13, 0, 1));
        x.tick(100);
        Due.is("the one whose ticks are gone first is ahead", x.underway(0, 2), 3);
        Due.is("the other one behind it", x.underway(0, 13 + 2), 4);
        Due.is("tries stay", x.about(tell, 1), 3);
    }

    private static void deadlinesComeFirst() {
        FarCacheLine x = Play.forgeable();
        int both = x.call(Play.ASK, 1);
        x.begin(both, 1);
        int later = x.call(Play.ASK, 1);
        x.begin(later, 2);
        x.cut(0, 0);
        Play.arrive(x, 1, Play.frame(both, 13, 0, 1));
        Play.arrive(x, 1, Play.frame(later, 13, 0, 1));
        Due.is("one is too late", x.tick(1), 1);
        Due.is("too late", x.end(both), -1);
        Due.is("it doesn't wait", x.about(both, 0), 0);
        Due.is("only the other one is opened", x.count(0), 13);
        Due.is("with its number", x.underway(0, 1), later);
        Due.is("then it is too late", x.tick(1), 1);

        FarCacheLine y = new FarCacheLine(8);
        int ask = y.call(Play.ASK, 1);
        y.busy(1);
        y.begin(ask, 5);
        Play.settle(y);
        Due.is("it waits", y.about(ask, 0), 1);
        Due.is("too late by ten ticks", y.tick(10), 1);
        Due.is("but it was opened ahead of that", y.count(0), 13);
    }

    /** A write and a read, of which each cut lets only some bytes through, get there in the end. */
    private static void goesOnAfterCuts() {
        FarCacheLine x = new FarCacheLine(8);
        int[] row = Play.bytes(60, 7);
        int write = Play.write(x, row);
        x.begin(write, 99);
        for (int i = 0; i < 40 && x.end(write) == 0; i++) {
            x.carry(0, 13);
            x.carry(1, 5);
            x.carry(0, 17);
            x.cut(0, 5);
            x.resume(write);
        }
        Due.is("written", x.end(write), 1);
        int read = Play.read(x, write);
        x.begin(read, 99);
        for (int i = 0; i < 40 && x.end(read) == 0; i++) {
            x.cut(13, 20);
            x.resume(read);
        }
        Due.is("read", x.end(read), 1);
        for (int i = 0; i < 60; i++) {
            Due.is("byte " + i, x.got(read, i), row[i]);
        }
    }
}
