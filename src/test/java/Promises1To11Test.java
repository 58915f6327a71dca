/** Promises 1 to 11, each sentence beside a test of its own: a new line, calls, and what becomes of its bytes. */
public final class Promises1To11Test {
    private static final int LOW = Play.LOW;
    private static final int HIGH = Play.HIGH;
    private static final int[] NO_ENDS = Play.outside(0, 1);

    private Promises1To11Test() {
    }

    public static void main(String[] args) {
        Suite.run(Promises1To11Test.class);
    }

    /** The most data that a line with this piece sends in one frame. */
    private static int mostSent(int piece) {
        FarCacheLine x = new FarCacheLine(piece);
        x.begin(Play.write(x, Play.bytes(60, 1)), 9);
        x.carry(0, 13);
        x.carry(1, 5);
        return x.underway(0, 0) - 4;
    }

    /** The most data that a line with this piece takes in one frame. */
    private static int mostTaken(int piece) {
        int most = 0;
        for (int size = 0; size < 250; size++) {
            FarCacheLine x = new FarCacheLine(piece);
            x.begin(x.call(Play.ASK, 1), 9);
            Play.forge(x, 0, 0, 4 + size);
            x.carry(0, 1);
            most = x.count(6) == 0 ? size : most;
        }
        return most;
    }

    @Says("PIECE 8 .. 40")
    static void promise1PieceIsFrom8To40() {
        for (int piece : new int[] {8, 9, 24, 39, 40}) {
            Due.is("sent by " + piece, mostSent(piece), piece);
            Due.is("taken by " + piece, mostTaken(piece), piece);
        }
    }

    @Says("(less counts as 8,")
    static void promise1LessThan8CountsAs8() {
        for (int piece : new int[] {LOW, -9, -1, 0, 1, 7}) {
            Due.is("sent by " + piece, mostSent(piece), 8);
            Due.is("taken by " + piece, mostTaken(piece), 8);
        }
    }

    @Says("more as 40);")
    static void promise1MoreThan40CountsAs40() {
        for (int piece : new int[] {41, 60, 256, HIGH}) {
            Due.is("sent by " + piece, mostSent(piece), 40);
            Due.is("taken by " + piece, mostTaken(piece), 40);
        }
    }

    @Says("no CALLS,")
    static void promise1ANewLineHasNoCalls() {
        FarCacheLine x = new FarCacheLine(8);
        for (int call : new int[] {LOW, -1, 0, 1, 29, 30, HIGH}) {
            Due.is("end", x.end(call), -9);
        }
        Due.is("the first one's number", x.call(0, 0), 0);
    }

    @Says("nothing UNDERWAY,")
    static void promise1NothingIsUnderwayOnANewLine() {
        FarCacheLine x = new FarCacheLine(8);
        for (int end = 0; end <= 1; end++) {
            Due.is("bytes", x.count(end), 0);
            Due.is("frames", x.count(2 + end), 0);
            Due.is("a byte", x.underway(end, 0), -1);
            Due.is("carried", x.carry(end, HIGH), 0);
        }
        Due.is("cut", x.cut(HIGH, HIGH), 0);
        Due.is("breaks", x.count(6), 0);
        Due.is("without room", x.count(7), 0);
    }

    @Says("an empty SERVER;")
    static void promise1ANewLinesServerIsEmpty() {
        FarCacheLine x = Play.forgeable();
        Due.is("blobs", x.count(4), 0);
        Due.is("results", x.count(5), 0);
        Due.is("not busy", x.count(8), 0);
        for (int number = 1; number < 30; number++) {
            Play.arrive(x, 0, Play.frame(number, 8, 0));
            Due.is("no partial", x.count(1), 0);
            Play.arrive(x, 0, Play.frame(number, 6, 0));
            Due.is("no note", x.count(1), 0);
        }
        Play.arrive(x, 0, Play.frameOf(1, 0, 0, 0));
        Play.due("no blob of 0", x, 1, Play.frame(1, 10, 0, 0));
        x.cut(0, 0);
        Play.arrive(x, 0, Play.frameOf(1, 3, 0, 0));
        Play.due("no result for 0", x, 1, Play.frame(1, 13, 0, 2));
    }

    @Says("the CLOCK is 0.")
    static void promise1ANewLinesClockIs0() {
        FarCacheLine x = new FarCacheLine(8);
        for (int i = 0; i < 1000; i++) {
            Due.is("a thousand ticks", x.tick(1000), 0);
        }
        Due.is("it was 0, and is 1000000", x.tick(1), -1);
    }

    @Says("A new CALL")
    static void promise2ANewCallHasTheNextNumber() {
        FarCacheLine x = new FarCacheLine(8);
        for (int i = 0; i < 30; i++) {
            Due.is("its number", x.call(i % 5, i), i);
            Due.is("it is there", x.end(i), 0);
            Due.is("the next one isn't", x.end(i + 1), -9);
        }
    }

    @Says("(of the ACTION only ASK and TELL know): its number;")
    static void promise2OnlyAskAndTellKnowTheAction() {
        for (int kind = 0; kind <= 4; kind++) {
            FarCacheLine x = new FarCacheLine(8);
            int write = Play.write(x, 9);
            int call = x.call(kind, 0x1122334455667788L);
            if (kind == Play.FIND) {
                x.name(call, write, 0);
            }
            x.begin(call, 9);
            long[] sent = {Play.digest(9), 0, 0, 0x1122334455667788L, 0x1122334455667788L};
            for (int i = 0; i < 8; i++) {
                Due.is("kind " + kind, x.underway(0, 4 + i), sent[kind] >>> 56 - 8 * i & 255);
            }
        }
    }

    @Says("NONE if there are 30,")
    static void promise2ThereIsNoThirtyFirstCall() {
        FarCacheLine x = new FarCacheLine(8);
        for (int i = 0; i < 30; i++) {
            x.call(i % 5, 0);
        }
        String before = Play.look(x);
        for (int kind = -1; kind <= 5; kind++) {
            Due.is("kind " + kind, x.call(kind, 0), -1);
        }
        Due.same("no call more", x, before);
        Due.is("no number 30", x.end(30), -9);
    }

    @Says("or no such KIND.")
    static void promise2ThereIsNoSuchKind() {
        FarCacheLine x = new FarCacheLine(8);
        for (int kind : Play.outside(0, 4)) {
            Due.is("kind " + kind, x.call(kind, 0), -1);
        }
        Due.is("no call", x.end(0), -9);
        Due.is("no number was used up: the lowest kind", x.call(0, 0), 0);
        Due.is("no number was used up: the highest kind", x.call(4, 0), 1);
    }

    @Says("A byte (of which the lowest eight bits count)")
    static void promise3OfAByteTheLowestEightBitsCount() {
        int[][] bytes = {{0, 0}, {255, 255}, {256, 0}, {257, 1}, {-1, 255}, {-2, 254}, {-256, 0}, {LOW, 0}, {HIGH, 255},
            {0x180, 128}};
        for (int[] b : bytes) {
            FarCacheLine x = new FarCacheLine(8);
            int write = x.call(Play.WRITE, 0);
            Due.is("data " + b[0], x.data(write, b[0]), 1);
            Due.is("its digest", x.named(write, 0), Play.digest(b[1]));
            x.begin(write, 9);
            x.carry(0, 13);
            x.carry(1, 5);
            Due.is("it is sent", x.underway(0, 4), b[1]);
        }
    }

    @Says("comes at the end of what a WRITE is told: how many there are;")
    static void promise3AByteComesAtTheEnd() {
        FarCacheLine x = new FarCacheLine(8);
        int write = x.call(Play.WRITE, 0);
        int other = x.call(Play.WRITE, 0);
        Due.is("one", x.data(write, 5), 1);
        Due.is("two", x.data(write, 6), 2);
        Due.is("one of the other", x.data(other, 7), 1);
        Due.is("three", x.data(write, 5), 3);
        Due.is("in this order", x.named(write, 0), Play.digest(5, 6, 5));
        Due.is("of the other", x.named(other, 0), Play.digest(7));
    }

    @Says("NONE if there is no such WRITE,")
    static void promise3ThereIsNoSuchWrite() {
        FarCacheLine x = new FarCacheLine(8);
        for (int kind = 0; kind <= 4; kind++) {
            x.call(kind, 0);
        }
        String before = Play.look(x);
        for (int call : new int[] {LOW, -1, 0, 2, 3, 4, 5, 29, 30, HIGH}) {
            Due.is("call " + call, x.data(call, 5), -1);
        }
        Due.same("data for what is no write", x, before);
        Due.is("the write", x.data(1, 5), 1);
    }

    @Says("it was BEGUN,")
    static void promise3AWriteThatWasBegunIsToldNoMore() {
        FarCacheLine x = new FarCacheLine(8);
        int write = Play.write(x, 5);
        x.begin(write, 9);
        String before = Play.look(x);
        Due.is("begun", x.data(write, 6), -1);
        Due.same("data for one that was begun", x, before);
        x.tick(9);
        Due.is("ended", x.data(write, 6), -1);
        Due.is("its digest", x.named(write, 0), Play.digest(5));
    }

    @Says("or there are 60.")
    static void promise3AWriteIsFullWith60Bytes() {
        FarCacheLine x = new FarCacheLine(8);
        int write = x.call(Play.WRITE, 0);
        int[] row = Play.bytes(60, 1);
        for (int i = 0; i < 60; i++) {
            Due.is("byte " + i, x.data(write, row[i]), i + 1);
        }
        for (int i = 0; i < 3; i++) {
            Due.is("full", x.data(write, 9), -1);
        }
        Due.is("60 bytes", x.named(write, 0), Play.digest(row));
    }

    @Says("A CALL NAMES one DIGEST more: that of what a WRITE has been told, xor a number: how many it NAMES;")
    static void promise4ACallNamesOneDigestMore() {
        FarCacheLine x = new FarCacheLine(8);
        int write = Play.write(x, 5, 6);
        x.name(write, write, 77);
        x.begin(write, 9);
        int find = x.call(Play.FIND, 0);
        long[] xors = {0, 1, Long.MIN_VALUE, -1};
        for (int i = 0; i < 4; i++) {
            Due.is("how many", x.name(find, write, xors[i]), i + 1);
            Due.is("the digest", x.named(find, i), Play.digest(5, 6) ^ xors[i]);
        }
        int read = x.call(Play.READ, 0);
        Due.is("a read", x.name(read, write, 3), 1);
        Due.is("its digest", x.named(read, 0), Play.digest(5, 6) ^ 3);
        int tell = x.call(Play.TELL, 0);
        Due.is("a tell", x.name(tell, write, 3), 1);
        Due.is("a tell names the same one again", x.name(tell, write, 3), 2);
    }

    @Says("for a WRITE (write is itself): its DIGEST is xor this number from now on: 1.")
    static void promise4AWritesDigestIsXorANumber() {
        FarCacheLine x = new FarCacheLine(8);
        int write = Play.write(x, 5);
        for (long xor : new long[] {7, -1, 0, Long.MIN_VALUE}) {
            Due.is("1 each time", x.name(write, write, xor), 1);
            Due.is("the last number counts", x.named(write, 0), Play.digest(5) ^ xor);
        }
        x.data(write, 6);
        Due.is("also for bytes that come later", x.named(write, 0), Play.digest(5, 6) ^ Long.MIN_VALUE);
        x.begin(write, 9);
        Play.due("opened with it", x, 0, Play.frameOf(write, 1, 0, Play.digest(5, 6) ^ Long.MIN_VALUE));
    }

    @Says("NONE if there are no such CALLS,")
    static void promise4ThereAreNoSuchCalls() {
        FarCacheLine x = new FarCacheLine(8);
        int write = Play.write(x, 5);
        int find = x.call(Play.FIND, 0);
        String before = Play.look(x);
        for (int none : new int[] {LOW, -1, 2, 29, 30, HIGH}) {
            Due.is("no such call", x.name(none, write, 0), -1);
            Due.is("no such write", x.name(find, none, 0), -1);
            Due.is("a write names no such write", x.name(write, none, 3), -1);
            Due.is("neither", x.name(none, none, 0), -1);
        }
        Due.same("naming what isn't there", x, before);
    }

    @Says("it is an ASK,")
    static void promise4AnAskNamesNothing() {
        FarCacheLine x = new FarCacheLine(8);
        int write = Play.write(x, 5);
        int ask = x.call(Play.ASK, 0);
        Due.is("none", x.name(ask, write, 0), -1);
        Due.is("none", x.named(ask, 0), 0);
        Due.is("nothing has come", x.about(ask, 2), 0);
    }

    @Says("it was BEGUN,")
    static void promise4ACallThatWasBegunNamesNoMore() {
        FarCacheLine x = new FarCacheLine(8);
        int write = Play.write(x, 5);
        int other = Play.write(x, 6);
        int[] calls = {x.call(Play.FIND, 0), x.call(Play.READ, 0), x.call(Play.TELL, 0), write};
        x.name(calls[0], other, 0);
        for (int call : calls) {
            x.begin(call, 9);
        }
        String before = Play.look(x);
        for (int call : calls) {
            Due.is("begun", x.name(call, call == write ? write : other, 3), -1);
        }
        Due.same("naming by calls that were begun", x, before);
        x.tick(9);
        for (int call : calls) {
            Due.is("ended", x.name(call, call == write ? write : other, 3), -1);
        }
    }

    @Says("it NAMES as many as may be,")
    static void promise4ACallNamesAsManyAsMayBe() {
        int[] most = {4, 1, 1, 0, 3};
        for (int kind : new int[] {Play.FIND, Play.READ, Play.TELL}) {
            FarCacheLine x = new FarCacheLine(8);
            int write = Play.write(x, 5);
            int call = x.call(kind, 0);
            for (int i = 1; i <= most[kind]; i++) {
                Due.is("kind " + kind, x.name(call, write, i), i);
            }
            String before = Play.look(x);
            Due.is("no more, kind " + kind, x.name(call, write, 0), -1);
            Due.is("no more, kind " + kind, x.name(call, write, 99), -1);
            Due.same("naming more than may be", x, before);
        }
    }

    @Says("or the other one is no WRITE")
    static void promise4TheOtherOneIsNoWrite() {
        FarCacheLine x = new FarCacheLine(8);
        for (int kind = 0; kind <= 4; kind++) {
            x.call(kind, 0);
        }
        String before = Play.look(x);
        for (int call : new int[] {0, 1, 2, 4}) {
            for (int other : new int[] {0, 2, 3, 4}) {
                Due.is(call + " names " + other, x.name(call, other, 5), -1);
            }
        }
        Due.same("naming what is no write", x, before);
    }

    @Says("(for a WRITE: not itself).")
    static void promise4AWriteNamesOnlyItself() {
        FarCacheLine x = new FarCacheLine(8);
        int write = Play.write(x, 5);
        int other = Play.write(x, 6);
        String before = Play.look(x);
        Due.is("another write", x.name(write, other, 9), -1);
        Due.is("another write", x.name(other, write, 9), -1);
        Due.same("a write that names another one", x, before);
        Due.is("itself", x.name(other, other, 9), 1);
    }

    @Says("A CALL is BEGUN with a DEADLINE (1 .. 100000 ticks from now on),")
    static void promise5TheShortestAndTheLongestDeadline() {
        FarCacheLine x = new FarCacheLine(8);
        x.tick(3);
        int shortest = x.call(Play.ASK, 0);
        int longest = x.call(Play.ASK, 0);
        Due.yes("1", x.begin(shortest, 1));
        Due.yes("100000", x.begin(longest, 100000));
        Due.is("after one tick from then on", x.tick(1), 1);
        Due.is("the shortest", x.end(shortest), -1);
        for (int i = 0; i < 99; i++) {
            Due.is("not yet", x.tick(1000), 0);
        }
        Due.is("99999 ticks", x.tick(998), 0);
        Due.is("not yet", x.end(longest), 0);
        Due.is("100000 ticks", x.tick(1), 1);
        Due.is("the longest", x.end(longest), -1);
    }

    @Says("and OPENED;")
    static void promise5ACallIsOpenedWhenItIsBegun() {
        FarCacheLine x = new FarCacheLine(8);
        int write = Play.write(x, 1, 2);
        int ask = x.call(Play.ASK, 3);
        Due.is("nothing is sent before", x.count(0), 0);
        x.begin(ask, 9);
        x.begin(write, 9);
        Play.due("both, as they were begun", x, 0, Play.frameOf(ask, 3, 0, 3),
                Play.frameOf(write, 1, 0, Play.digest(1, 2)));
    }

    @Says("false if there is none such,")
    static void promise5ThereIsNoSuchCall() {
        FarCacheLine x = new FarCacheLine(8);
        for (int call : new int[] {LOW, -1, 0, 29, 30, HIGH}) {
            Due.no("an empty line", x.begin(call, 9));
        }
        x.call(Play.ASK, 0);
        for (int call : Play.outside(0, 0)) {
            Due.no("none such", x.begin(call, 9));
        }
        Due.is("nothing is sent", x.count(0), 0);
    }

    @Says("it was BEGUN,")
    static void promise5ACallIsBegunOnce() {
        FarCacheLine x = new FarCacheLine(8);
        int ask = x.call(Play.ASK, 0);
        x.begin(ask, 5);
        Due.no("it goes on", x.begin(ask, 9));
        Due.is("it is opened once", x.count(0), 13);
        Due.is("its first deadline counts", x.tick(5), 1);
        Due.no("it ended", x.begin(ask, 9));
        Due.is("too late still", x.end(ask), -1);
        int find = x.call(Play.FIND, 0);
        x.begin(find, 5);
        Due.no("it was done at once", x.begin(find, 5));
        Due.is("it is opened once", x.count(0), 13);
    }

    @Says("or the DEADLINE isn't so.")
    static void promise5NoSuchDeadline() {
        FarCacheLine x = new FarCacheLine(8);
        int ask = x.call(Play.ASK, 0);
        int find = x.call(Play.FIND, 0);
        for (int deadline : Play.outside(1, 100000)) {
            Due.no("deadline " + deadline, x.begin(ask, deadline));
            Due.no("deadline " + deadline, x.begin(find, deadline));
        }
        Due.is("nothing is sent", x.count(0), 0);
        Due.is("the find isn't done", x.end(find), 0);
        Due.is("nothing goes on", x.resume(ask), -1);
        Due.yes("it can be begun still", x.begin(ask, 1));
    }

    /** Two frames of a find are underway. */
    private static FarCacheLine withTwoFrames() {
        FarCacheLine x = new FarCacheLine(8);
        int write = Play.write(x, 5);
        int find = x.call(Play.FIND, 0);
        x.name(find, write, 0);
        x.name(find, write, 1);
        x.begin(find, 99);
        return x;
    }

    @Says({"CARRYING n bytes from an END", "how many arrived"})
    static void promise6SoManyBytesAreCarried() {
        FarCacheLine x = withTwoFrames();
        Due.is("none", x.carry(0, 0), 0);
        Due.is("none", x.count(0), 26);
        Due.is("twelve", x.carry(0, 12), 12);
        Due.is("no answer yet", x.count(1), 0);
        Due.is("one", x.carry(0, 1), 1);
        Due.is("one answer", x.count(1), 6);
        Due.is("just the rest", x.carry(0, 13), 13);
        Due.is("two answers", x.count(1), 12);
        Due.is("from the server", x.carry(1, 7), 7);
        Due.is("one is answered", x.about(1, 2), 1);
        Due.is("bytes left", x.count(1), 5);
    }

    @Says("(all, if there are not so many):")
    static void promise6AllAreCarriedIfThereAreNotSoMany() {
        FarCacheLine x = withTwoFrames();
        Due.is("nothing from the server", x.carry(1, 1), 0);
        Due.is("one more than there are", x.carry(0, 27), 26);
        Due.is("none left", x.carry(0, 1), 0);
        Due.is("far more than there are", x.carry(1, HIGH), 12);
        Due.is("none left", x.carry(1, HIGH), 0);
        Due.is("done", x.end(1), 1);
    }

    @Says("(with the one that BREAKS the LINE, behind which none do);")
    static void promise6BehindABreakNoneArrive() {
        FarCacheLine x = withTwoFrames();
        x.lie(0, 12, 1);
        Due.is("with the sum that breaks", x.carry(0, 26), 13);
        Due.is("none left", x.carry(0, 26), 0);
        Due.is("a break", x.count(6), 1);
        x.resume(1);
        x.lie(0, 13, 255);
        Due.is("with the length that breaks", x.carry(0, HIGH), 14);
        Due.is("the answer is gone too", x.count(1), 0);
        Due.is("a break", x.count(6), 2);
        x.resume(1);
        x.carry(0, HIGH);
        x.lie(1, 6, 255);
        Due.is("from the server", x.carry(1, HIGH), 7);
        Due.is("the first answer arrived", x.about(1, 2), 1);
        Due.is("a break", x.count(6), 3);
    }

    @Says("NONE if there is no such END,")
    static void promise6ThereIsNoSuchEnd() {
        FarCacheLine x = withTwoFrames();
        String before = Play.look(x);
        for (int end : NO_ENDS) {
            Due.is("end " + end, x.carry(end, 5), -1);
            Due.is("end " + end, x.carry(end, -5), -1);
        }
        Due.same("carrying from no end", x, before);
    }

    @Says("or n is below 0.")
    static void promise6NIsBelow0() {
        FarCacheLine x = withTwoFrames();
        String before = Play.look(x);
        for (int n : new int[] {-1, LOW}) {
            Due.is("from the client", x.carry(0, n), -1);
            Due.is("from the server", x.carry(1, n), -1);
        }
        Due.same("carrying fewer than none", x, before);
    }

    @Says("The LINE is cut: n bytes from the CLIENT are CARRIED,")
    static void promise7NBytesFromTheClientAreCarried() {
        FarCacheLine x = withTwoFrames();
        Due.is("none: both frames go", x.cut(0, 0), 26);
        x.resume(1);
        Due.is("12: the first one isn't whole", x.cut(12, 0), 14);
        x.resume(1);
        Due.is("13: an answer goes", x.cut(13, 0), 13 + 6);
        x.resume(1);
        Due.is("all, if there are not so many", x.cut(HIGH, 0), 12);
        Due.is("none was answered", x.about(1, 2), 0);
    }

    @Says("then m from the SERVER;")
    static void promise7ThenMBytesFromTheServerAreCarried() {
        FarCacheLine x = withTwoFrames();
        Due.is("5 of an answer", x.cut(26, 5), 7);
        Due.is("it isn't whole", x.about(1, 2), 0);
        x.resume(1);
        Due.is("6 of an answer that came by the cut itself", x.cut(26, 6), 6);
        Due.is("it is whole", x.about(1, 2), 1);
        x.resume(1);
        Due.is("all, if there are not so many", x.cut(HIGH, HIGH), 0);
        Due.is("done by a cut", x.end(1), 1);
    }

    @Says("then m from the SERVER;")
    static void promise7WhatTheClientSendsByACutGoes() {
        FarCacheLine x = new FarCacheLine(8);
        int write = Play.write(x, Play.bytes(20, 1));
        x.begin(write, 9);
        Due.is("pieces that it sends aren't carried", x.cut(HIGH, HIGH), 13 + 13 + 9 + 5);
        Due.is("none came", x.about(write, 3), 0);
    }

    @Says("then all that is UNDERWAY or GATHERED, both ways, is gone:")
    static void promise7AllIsGoneBothWays() {
        FarCacheLine x = withTwoFrames();
        x.carry(0, 13);
        Due.is("7 gathered at the server, 2 at the client", x.cut(7, 2), 6 + 4);
        Due.is("bytes and frames", x.count(0) + x.count(1) + x.count(2) + x.count(3), 0);
        x.resume(1);
        x.carry(0, 12);
        Due.is("nothing was gathered at the server", x.count(1), 0);
        x.carry(0, 1);
        Due.is("nothing was gathered at the server", x.count(1), 6);
        x.carry(1, 5);
        Due.is("nothing was gathered at the client", x.about(1, 2), 0);
        x.carry(1, 1);
        Due.is("nothing was gathered at the client", x.about(1, 2), 1);
        Due.is("a cut is no break", x.count(6), 0);
        Due.is("the call goes on", x.end(1), 0);
    }

    @Says("how many bytes that were UNDERWAY still go by that;")
    static void promise7HowManyBytesGo() {
        FarCacheLine x = withTwoFrames();
        x.carry(0, 20);
        Due.is("those gathered don't count: 6 both ways", x.cut(0, 0), 6 + 6);
        Due.is("an empty line", x.cut(0, 0), 0);
        x.resume(1);
        x.lie(0, 0, 128);
        Due.is("a break ahead of the cut leaves none", x.cut(1, 7), 0);
        Due.is("it counts as a break", x.count(6), 1);
    }

    @Says("NONE, and nothing happens, if n or m is below 0.")
    static void promise7NothingHappensIfNOrMIsBelow0() {
        FarCacheLine x = withTwoFrames();
        x.carry(0, 13);
        String before = Play.look(x);
        int[][] cuts = {{-1, 0}, {0, -1}, {-1, -1}, {LOW, LOW}, {13, -1}, {-1, 6}, {13, LOW}, {LOW, 6}};
        for (int[] cut : cuts) {
            Due.is("cut " + cut[0] + ", " + cut[1], x.cut(cut[0], cut[1]), -1);
        }
        Due.same("a cut that is refused", x, before);
    }

    /** A tell of three digests: five frames are underway. */
    private static FarCacheLine withATell() {
        FarCacheLine x = new FarCacheLine(8);
        int tell = Play.tell(x, 5, Play.write(x, 1), Play.write(x, 2), Play.write(x, 3));
        x.begin(tell, 9);
        return x;
    }

    private static int[][] framesOfTheTell() {
        return new int[][] {Play.frameOf(3, 4, 0, 5), Play.frameOf(3, 5, 0, Play.digest(1)),
            Play.frameOf(3, 5, 1, Play.digest(2)), Play.frameOf(3, 5, 2, Play.digest(3)), Play.frame(3, 6, 3)};
    }

    @Says("The i-th of the FRAMES on the WAY from an END")
    static void promise8AFrameIsLost() {
        int[][] f = framesOfTheTell();
        int[][][] left = {{f[1], f[2], f[3], f[4]}, {f[0], f[2], f[3], f[4]}, {f[0], f[1], f[3], f[4]},
            {f[0], f[1], f[2], f[4]}, {f[0], f[1], f[2], f[3]}};
        for (int i = 0; i < 5; i++) {
            FarCacheLine x = withATell();
            Due.yes("frame " + i, x.lose(0, i));
            Play.due("the others stay", x, 0, left[i]);
            Due.is("four frames", x.count(2), 4);
        }
        FarCacheLine y = withTwoFrames();
        y.carry(0, 26);
        Due.yes("from the server", y.lose(1, 0));
        Play.due("the second one stays", y, 1, Play.frame(1, 10, 1, 0));
    }

    @Says("The i-th of the FRAMES on the WAY from an END")
    static void promise8AFrameOfAFullWayIsLost() {
        for (int i : new int[] {0, 1, 200, 398, 399}) {
            FarCacheLine x = new FarCacheLine(8);
            x.begin(x.call(Play.TELL, 2), 9);
            x.lose(0, 0);
            for (int k = 0; k < 399; k++) {
                x.twice(0, k);
            }
            x.lie(0, 5 * i + 3, 9);
            Due.is("2000 bytes in 400 frames", x.count(0), 5 * x.count(2));
            Due.yes("frame " + i, x.lose(0, i));
            Due.is("399 frames", x.count(2), 399);
            Due.is("1995 bytes", x.count(0), 1995);
            for (int k = 0; k < 399; k++) {
                Due.is("that one is gone", x.underway(0, 5 * k + 3), 0);
            }
            Due.yes("there is room for one in its place", x.twice(0, 398));
            Due.is("400 frames", x.count(2), 400);
            Due.is("all arrive", x.carry(0, HIGH), 2000);
        }
    }

    @Says("of which nothing has arrived is lost;")
    static void promise8AFrameThatHasArrivedInPartIsNotLost() {
        int[][] frames = framesOfTheTell();
        for (int arrived : new int[] {1, 12}) {
            FarCacheLine x = withATell();
            x.carry(0, arrived);
            Due.yes("the second one is the 0-th then", x.lose(0, 0));
            Due.is("the rest of the first one stays", x.count(0), 13 - arrived + 13 + 13 + 5);
            Due.is("the third one is behind it", x.underway(0, 13 - arrived + 3), 1);
            Due.is("the first one's sum", x.underway(0, 12 - arrived), frames[0][12]);
            Due.no("no fourth one of which nothing has arrived", x.lose(0, 3));
            Due.is("all arrive", x.carry(0, HIGH), 13 - arrived + 31);
            Due.is("whole", x.count(6), 0);
        }
        FarCacheLine y = withATell();
        y.carry(0, 13);
        Due.yes("whole ones don't count either", y.lose(0, 3));
        Due.is("the last one is lost", y.count(0), 39);
    }

    @Says("false if there is none such.")
    static void promise8ThereIsNoSuchFrame() {
        FarCacheLine x = withATell();
        String before = Play.look(x);
        for (int i : Play.outside(0, 4)) {
            Due.no("frame " + i, x.lose(0, i));
        }
        for (int end : NO_ENDS) {
            Due.no("end " + end, x.lose(end, 0));
        }
        Due.no("an empty way", x.lose(1, 0));
        Due.same("losing what isn't there", x, before);
        for (int i = 0; i < 5; i++) {
            Due.yes("lost", x.lose(0, 0));
        }
        Due.no("all are lost", x.lose(0, 0));
        x.resume(3);
        x.carry(0, 13 * 4 + 1);
        Due.no("only one that has arrived in part", x.lose(0, 0));
    }

    @Says("It comes once more, right behind itself: true")
    static void promise9AFrameComesRightBehindItself() {
        int[][] f = framesOfTheTell();
        int[][][] due = {{f[0], f[0], f[1], f[2], f[3], f[4]}, {f[0], f[1], f[1], f[2], f[3], f[4]},
            {f[0], f[1], f[2], f[2], f[3], f[4]}, {f[0], f[1], f[2], f[3], f[3], f[4]},
            {f[0], f[1], f[2], f[3], f[4], f[4]}};
        for (int i = 0; i < 5; i++) {
            FarCacheLine x = withATell();
            Due.yes("frame " + i, x.twice(0, i));
            Play.due("right behind itself", x, 0, due[i]);
            Due.is("six frames", x.count(2), 6);
        }
        FarCacheLine y = withTwoFrames();
        y.carry(0, 26);
        Due.yes("from the server", y.twice(1, 0));
        Play.due("right behind itself", y, 1, Play.frame(1, 10, 0, 0), Play.frame(1, 10, 0, 0), Play.frame(1, 10, 1, 0));
        y.carry(1, HIGH);
        Due.is("it counts once", y.about(1, 2), 2);
    }

    @Says("It comes once more, right behind itself: true")
    static void promise9AFrameComesAsItHasBecome() {
        FarCacheLine x = withATell();
        x.carry(0, 1);
        x.lie(0, 12 + 3, 7);
        Due.yes("the first one of which nothing has arrived", x.twice(0, 0));
        Due.is("bytes", x.count(0), 12 + 13 * 4 + 5);
        Due.is("as it has become", x.underway(0, 12 + 3), 7);
        Due.is("as it has become", x.underway(0, 12 + 13 + 3), 7);
        Due.yes("the one that came once more can be lost", x.lose(0, 1));
        Due.is("bytes", x.count(0), 12 + 13 * 3 + 5);
    }

    @Says("It comes once more, right behind itself: true")
    static void promise9FramesAreMovedInsideAFullWay() {
        FarCacheLine x = new FarCacheLine(8);
        Play.flood(x, 150);
        int tell = x.call(Play.TELL, 2);
        x.begin(tell, 9);
        x.carry(0, 1000);
        Due.is("frames of which nothing has arrived", x.count(2), 73 + 2);
        for (int i = 0; i < 70; i++) {
            Due.yes("the tell's first frame comes once more", x.twice(0, 73));
        }
        Due.yes("an ask is lost", x.lose(0, 72));
        Due.is("bytes", x.count(0), 1 + 72 * 13 + 71 * 13 + 5);
        Due.is("the last frame is the tell's last one", x.underway(0, 1 + 143 * 13 + 2), 6);
        Due.is("the one ahead of it its first one", x.underway(0, 1 + 142 * 13 + 2), 4);
        Due.is("the first one of them", x.underway(0, 1 + 72 * 13 + 2), 4);
        Due.is("behind the last ask", x.underway(0, 1 + 71 * 13 + 2), 3);
        Due.is("all arrive", x.carry(0, HIGH), 1 + 143 * 13 + 5);
        Due.is("whole", x.count(6), 0);
        x.carry(1, HIGH);
        Due.is("done", x.end(tell), 1);
    }

    @Says("It comes once more, right behind itself: true")
    static void promise9LongAndShortFramesAreToldApartInsideAFullWay() {
        FarCacheLine x = new FarCacheLine(8);
        int tell = x.call(Play.TELL, 2);
        x.begin(tell, 9);
        for (int i = 1; i < 111; i++) {
            x.resume(tell);
        }
        x.carry(0, 13);
        Due.is("short and long by turns", x.count(0), 5 + 110 * 18);
        Due.yes("the first short one comes once more", x.twice(0, 0));
        int left = 10 + 110 * 18;
        int[] sizes = {5, 5, 13, 5, 13, 5};
        for (int size : sizes) {
            Due.is("bytes", x.count(0), left);
            Due.is("the first one's length", x.underway(0, 0), size - 1);
            Due.yes("it is lost", x.lose(0, 0));
            left -= size;
        }
        Due.is("bytes", x.count(0), left);
        Due.is("all arrive", x.carry(0, HIGH), left);
        Due.is("whole", x.count(6), 0);
    }

    @Says("(also if there is no room for it, and it doesn't);")
    static void promise9WithoutRoomItDoesNotCome() {
        FarCacheLine x = new FarCacheLine(8);
        x.begin(x.call(Play.ASK, 6), 9);
        for (int i = 1; i < 153; i++) {
            Due.yes("once more", x.twice(0, i / 2));
        }
        Due.is("1989 bytes", x.count(0), 1989);
        Due.is("all had room", x.count(7), 0);
        Due.yes("2002 would be too many: true", x.twice(0, 7));
        Due.is("but it doesn't come", x.count(0), 1989);
        Due.is("it counts", x.count(7), 1);
        x.carry(0, 1);
        Due.yes("2001 would be too many: true", x.twice(0, 7));
        Due.is("but it doesn't come", x.count(0), 1988);
        Due.is("it counts", x.count(7), 2);
        x.carry(0, 1);
        Due.yes("2000 have room", x.twice(0, 7));
        Due.is("it comes", x.count(0), 2000);
        Due.is("no more counts", x.count(7), 2);
        Due.is("all arrive", x.carry(0, HIGH), 2000);
        Due.is("whole", x.count(6), 0);
    }

    @Says("false if there is none such.")
    static void promise9ThereIsNoSuchFrame() {
        FarCacheLine x = withATell();
        String before = Play.look(x);
        for (int i : Play.outside(0, 4)) {
            Due.no("frame " + i, x.twice(0, i));
        }
        for (int end : NO_ENDS) {
            Due.no("end " + end, x.twice(end, 0));
        }
        Due.no("an empty way", x.twice(1, 0));
        Due.same("doubling what isn't there", x, before);
        x.carry(0, 13 * 4 + 1);
        Due.no("only one that has arrived in part", x.twice(0, 0));
        Due.is("nothing counts as without room", x.count(7), 0);
    }

    @Says("Byte k of those UNDERWAY from an END becomes xor a mask (its lowest eight bits);")
    static void promise10AByteBecomesXorAMask() {
        FarCacheLine x = withATell();
        int[][] masks = {{1, 1}, {255, 255}, {0x1FF, 255}, {-241, 15}, {-1, 255}, {HIGH, 255}, {LOW + 3, 3}};
        for (int[] mask : masks) {
            for (int k : new int[] {0, 4, 12, 13, 56}) {
                int old = x.underway(0, k);
                Due.yes("mask " + mask[0], x.lie(0, k, mask[0]));
                Due.is("xor its lowest eight bits", x.underway(0, k), old ^ mask[1]);
                x.lie(0, k, mask[1]);
            }
        }
        Play.due("all is as before", x, 0, framesOfTheTell());
        x.carry(0, 4);
        Due.yes("byte 0 is the first that has not arrived", x.lie(0, 0, 9));
        Due.is("0 xor 9", x.underway(0, 0), 9);
    }

    @Says("false if there is none such,")
    static void promise10ThereIsNoSuchByte() {
        FarCacheLine x = withATell();
        String before = Play.look(x);
        for (int k : Play.outside(0, 56)) {
            Due.no("byte " + k, x.lie(0, k, 1));
        }
        for (int end : NO_ENDS) {
            Due.no("end " + end, x.lie(end, 0, 1));
        }
        Due.no("an empty way", x.lie(1, 0, 1));
        Due.same("changing what isn't there", x, before);
        x.carry(0, 4);
        Due.yes("the last one", x.lie(0, 52, 1));
        Due.no("those that have arrived don't count", x.lie(0, 53, 1));
    }

    @Says("or these are 0.")
    static void promise10TheMasksLowestBitsAre0() {
        FarCacheLine x = withATell();
        String before = Play.look(x);
        for (int mask : new int[] {0, 256, -256, 0x7FFFFF00, LOW}) {
            Due.no("mask " + mask, x.lie(0, 4, mask));
        }
        Due.same("a lie that changes nothing", x, before);
    }

    @Says("Byte k of those UNDERWAY from an END;")
    static void promise11AByteThatIsUnderway() {
        FarCacheLine x = new FarCacheLine(8);
        x.begin(x.call(Play.ASK, 0x11223344556677FFL), 9);
        int[] frame = {12, 0, 3, 0, 0x11, 0x22, 0x33, 0x44, 0x55, 0x66, 0x77, 0xFF, 234};
        for (int k = 0; k < 13; k++) {
            Due.is("byte " + k, x.underway(0, k), frame[k]);
        }
        x.carry(0, 5);
        for (int k = 0; k < 8; k++) {
            Due.is("byte " + k + " of those that have not arrived", x.underway(0, k), frame[5 + k]);
        }
        x.carry(0, 8);
        Play.due("from the server", x, 1, Play.frame(0, 13, 0, 2));
    }

    @Says("NONE if there is none such.")
    static void promise11ThereIsNoSuchByte() {
        FarCacheLine x = withATell();
        for (int k : Play.outside(0, 56)) {
            Due.is("byte " + k, x.underway(0, k), -1);
        }
        for (int end : NO_ENDS) {
            Due.is("end " + end, x.underway(end, 0), -1);
        }
        Due.is("an empty way", x.underway(1, 0), -1);
        x.carry(0, 4);
        Due.is("those that have arrived don't count", x.underway(0, 53), -1);
        x.carry(0, HIGH);
        Due.is("all have arrived", x.underway(0, 0), -1);
    }
}
