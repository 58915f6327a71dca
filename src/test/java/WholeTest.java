/** What the document says at its head: what the class is for, all of it over one line. */
public final class WholeTest {
    private WholeTest() {
    }

    public static void main(String[] args) {
        Suite.run(WholeTest.class);
    }

    @Says("A far cache over a line: bytes in frames with lengths and sums, several calls at once;")
    static void whatItIsSeveralCallsAtOnce() {
        FarCacheLine x = new FarCacheLine(8);
        int stored = Play.stored(x, 1, 2, 3);
        Play.run(x, Play.tell(x, 5, stored));
        int write = Play.write(x, Play.bytes(20, 1));
        int read = Play.read(x, stored);
        int tell = Play.tell(x, 6, stored);
        int ask = x.call(Play.ASK, 5);
        int find = x.call(Play.FIND, 0);
        x.name(find, stored, 0);
        for (int call = write; call <= find; call++) {
            Due.yes("is begun", x.begin(call, 100));
        }
        long digest = Play.digest(1, 2, 3);
        Play.due("all at once", x, 0,
            Play.frameOf(write, 1, 0, x.named(write, 0)), Play.frameOf(read, 2, 0, digest),
            Play.frameOf(tell, 4, 0, 6), Play.frameOf(tell, 5, 0, digest), Play.frame(tell, 6, 1),
            Play.frameOf(ask, 3, 0, 5), Play.frameOf(find, 0, 0, digest));
        carryByteByByte(x);
        for (int call = write; call <= find; call++) {
            Due.is("call " + call + " has ended", x.end(call), 1);
        }
        Due.is("what was read", x.got(read, 2), 3);
        Due.is("what was asked for", x.named(ask, 0), digest);
        Due.is("blobs", x.count(4), 2);
        Due.is("results", x.count(5), 2);
    }

    private static void carryByteByByte(FarCacheLine x) {
        for (int i = 0; i < 1000 && x.count(0) + x.count(1) > 0; i++) {
            x.carry(i % 2, 1);
        }
        Due.is("bytes underway", x.count(0) + x.count(1), 0);
    }

    @Says("what is missing is found,")
    static void whatItIsMissingIsFound() {
        FarCacheLine x = new FarCacheLine(8);
        int[] writes = new int[4];
        for (int i = 0; i < 4; i++) {
            writes[i] = i % 2 == 0 ? Play.stored(x, i) : Play.write(x, i);
        }
        int find = findOf(x, writes);
        Due.is("the first one", x.missing(find, 0), 1);
        Due.is("the second one", x.missing(find, 1), 3);
        Due.is("no third one", x.missing(find, 2), -1);
        Play.run(x, writes[x.missing(find, 0)]);
        Play.run(x, writes[x.missing(find, 1)]);
        Due.is("nothing is missing now", x.missing(findOf(x, writes), 0), -1);
    }

    private static int findOf(FarCacheLine x, int... writes) {
        int find = x.call(Play.FIND, 0);
        for (int write : writes) {
            x.name(find, write, 0);
        }
        Play.run(x, find);
        Due.is("a find", x.end(find), 1);
        return find;
    }

    @Says("content is written and read in pieces that go on at a place,")
    static void whatItIsPiecesThatGoOn() {
        FarCacheLine x = new FarCacheLine(8);
        int[] row = Play.bytes(60, 3);
        int write = Play.write(x, row);
        x.begin(write, 100);
        for (int place = 0; place < 56; place += 8) {
            x.carry(0, Play.ALL);
            x.carry(1, Play.ALL);
            x.cut(13, 0);
            Due.is("written before a cut", x.about(write, 3), place + 8);
            Due.is("goes on", x.resume(write), 0);
        }
        Play.settle(x);
        Due.is("the write", x.end(write), 1);
        int read = Play.read(x, write);
        x.begin(read, 100);
        for (int place = 0; place < 56; place += 8) {
            x.cut(Play.ALL, 13);
            Due.is("read before a cut", x.resume(read), place + 8);
        }
        Play.settle(x);
        Due.is("the read", x.end(read), 1);
        for (int i = 0; i < 60; i++) {
            Due.is("byte " + i, x.got(read, i), row[i]);
        }
    }

    @Says("results count only with their content;")
    static void whatItIsResultsWithTheirContent() {
        FarCacheLine x = new FarCacheLine(8);
        int write = Play.write(x, 1, 2);
        Play.run(x, Play.tell(x, 9, write));
        Due.is("results", x.count(5), 1);
        Due.is("before there is content", endOfAsk(x, 9), -2);
        Play.run(x, write);
        Due.is("with it", endOfAsk(x, 9), 1);
        x.forget(write);
        Due.is("without it again", endOfAsk(x, 9), -2);
    }

    private static int endOfAsk(FarCacheLine x, long action) {
        int ask = x.call(Play.ASK, action);
        Play.run(x, ask);
        return x.end(ask);
    }

    @Says("errors that may be tried again, with waits that grow;")
    static void whatItIsWaitsThatGrow() {
        FarCacheLine x = new FarCacheLine(8);
        int write = Play.stored(x, 1);
        int read = Play.read(x, write);
        int ask = x.call(Play.ASK, 1);
        x.begin(read, 100);
        x.begin(ask, 100);
        x.busy(9);
        for (int ticks : new int[] {1, 2, 4, 8}) {
            Play.settle(x);
            Due.is("the read's wait", x.about(read, 0), ticks);
            Due.is("the ask's wait", x.about(ask, 0), ticks);
            x.tick(ticks);
        }
        Play.settle(x);
        Due.is("the read, put off five times", x.end(read), -5);
        Due.is("the ask, put off four times and then answered", x.end(ask), -2);
    }

    @Says("cut lines, lost, doubled and lying frames;")
    static void whatItIsTroubleOnTheLine() {
        FarCacheLine x = new FarCacheLine(8);
        int write = Play.write(x, Play.bytes(30, 7));
        x.begin(write, 100);
        x.cut(5, 0);
        Due.is("resumed behind a cut", x.resume(write), 0);
        x.carry(0, Play.ALL);
        x.lie(1, 4, 255);
        x.carry(1, Play.ALL);
        Due.is("breaks by a lie", x.count(6), 1);
        Due.is("resumed behind a break", x.resume(write), 0);
        x.carry(0, Play.ALL);
        x.carry(1, Play.ALL);
        Due.yes("a doubled piece", x.twice(0, 0));
        Due.yes("a lost piece", x.lose(0, 2));
        Play.settle(x);
        Due.is("it waits, since a piece is not there", x.about(write, 0), 1);
        Due.is("the pieces ahead of the lost one", x.about(write, 3), 8);
        x.tick(1);
        Play.settle(x);
        Due.is("the write", x.end(write), 1);
        int read = Play.read(x, write);
        Play.run(x, read);
        Due.is("what was written", x.end(read), 1);
    }

    @Says("deadlines by a clock.")
    static void whatItIsDeadlines() {
        FarCacheLine x = new FarCacheLine(8);
        int soon = x.call(Play.ASK, 1);
        int later = x.call(Play.ASK, 2);
        x.begin(soon, 3);
        x.begin(later, 4);
        Due.is("too late by 2 ticks", x.tick(2), 0);
        Due.is("by the third one", x.tick(1), 1);
        Due.is("the one", x.end(soon), -1);
        Due.is("the other one goes on", x.end(later), 0);
        Play.settle(x);
        Due.is("and is answered", x.end(later), -2);
        Due.is("so that it can't be too late", x.tick(1), 0);
    }

    @Says({"An object is used for at most 512 calls after it has been made;", "what later calls answer is free."})
    static void whatItIsFor512Calls() {
        FarCacheLine x = new FarCacheLine(8);
        int calls = 0;
        for (int i = 0; i < 30; i++) {
            Due.is("a call", x.call(Play.ASK, i), i);
            Due.yes("is begun", x.begin(i, 9));
            calls += 2;
        }
        for (; calls < 511; calls++) {
            Due.is("is resumed", x.resume(calls % 30), 0);
        }
        Due.is("the 512th call", x.carry(0, Play.HIGH), 153 * 13);
        // Free to answer, but not to throw what the document names nowhere.
        for (int later = 0; later < 1000; later++) {
            x.resume(later % 30);
            x.carry(later % 2, later);
        }
    }
}
