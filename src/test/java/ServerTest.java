import java.util.Arrays;

/** What the server does by the kind of a frame, with frames that no client would send too. */
public final class ServerTest {
    private ServerTest() {
    }

    public static void main(String[] args) {
        answersFinds();
        startsWrites();
        keepsAPartialsFirstDigest();
        takesPieces();
        finishesWrites();
        keepsTenBlobs();
        answersReads();
        answersAsks();
        takesNotes();
        keepsTenResults();
        isBusyForRequestsAlone();
        otherFramesAreNothing();
        Due.close();
    }

    /** The server's answer to a frame is just these frames. */
    private static void answers(String what, FarCacheLine x, int[] frame, int[]... due) {
        Play.arrive(x, 0, frame);
        Play.due(what, x, 1, due);
        x.cut(0, 0);
    }

    private static void answersFinds() {
        FarCacheLine x = Play.forgeable();
        Play.stored(x, 1, 2, 3);
        long there = Play.digest(1, 2, 3);
        answers("there", x, Play.frameOf(1, 0, 0, there), Play.frame(1, 10, 0, 1));
        answers("the same place", x, Play.frameOf(7, 0, 255, there), Play.frame(7, 10, 255, 1));
        answers("not there", x, Play.frameOf(1, 0, 3, there + 1), Play.frame(1, 10, 3, 0));
        answers("by all bits", x, Play.frameOf(1, 0, 3, there ^ Long.MIN_VALUE), Play.frame(1, 10, 3, 0));
    }

    private static void startsWrites() {
        FarCacheLine x = Play.forgeable();
        int[] row = Play.bytes(10, 1);
        int write = Play.write(x, row);
        x.begin(write, 99);
        x.carry(0, 13);
        Play.due("a new partial", x, 1, Play.frame(write, 12, 0));
        x.carry(1, 5);
        x.cut(15, 0);
        Due.is("the piece has come", x.about(write, 3), 10);
        answers("the partial stays", x, Play.frameOf(write, 1, 0, Play.digest(row)), Play.frame(write, 12, 10));
        answers("whatever the place", x, Play.frameOf(write, 1, 9, Play.digest(row)), Play.frame(write, 12, 10));
        Play.stored(x, row);
        answers("there is such a blob", x, Play.frameOf(write, 1, 0, Play.digest(row)), Play.frame(write, 11, 0));
        Due.is("the partial goes", x.about(write, 3), -1);
        answers("without a partial too", x, Play.frameOf(write, 1, 5, Play.digest(row)), Play.frame(write, 11, 0));
        x.forget(write);
        answers("a new one, empty", x, Play.frameOf(write, 1, 0, Play.digest(row)), Play.frame(write, 12, 0));
    }

    private static void keepsAPartialsFirstDigest() {
        FarCacheLine x = Play.forgeable();
        Play.write(x, 5);
        answers("made by one digest", x, Play.frameOf(1, 1, 0, 1234), Play.frame(1, 12, 0));
        answers("then another one", x, Play.frameOf(1, 1, 0, Play.digest(5)), Play.frame(1, 12, 0));
        answers("a byte", x, Play.frame(1, 7, 0, 5));
        answers("differs from the first one", x, Play.frame(1, 8, 1), Play.frame(1, 13, 0, 3));
        Due.is("the partial goes", x.about(1, 3), -1);
        Due.is("no blob", x.count(4), 0);
        answers("made by its own digest", x, Play.frameOf(1, 1, 0, Play.digest(5)), Play.frame(1, 12, 0));
        answers("then another one", x, Play.frameOf(1, 1, 0, 1234), Play.frame(1, 12, 0));
        answers("a byte", x, Play.frame(1, 7, 0, 5));
        answers("is the first one", x, Play.frame(1, 8, 1), Play.frame(1, 11, 0));
        Due.is("a blob", x.count(4), 1);
    }

    private static void takesPieces() {
        FarCacheLine x = Play.forgeable();
        Play.write(x, 5);
        answers("without a partial", x, Play.frame(1, 7, 0, 5));
        Due.is("nothing", x.about(1, 3), -1);
        answers("a partial", x, Play.frameOf(1, 1, 0, 1), Play.frame(1, 12, 0));
        answers("at a place behind it", x, Play.frame(1, 7, 1, 5));
        Due.is("nothing", x.about(1, 3), 0);
        answers("no bytes", x, Play.frame(1, 7, 0));
        Due.is("none come", x.about(1, 3), 0);
        answers("40 bytes", x, Play.frame(1, 7, 0, new int[40]));
        Due.is("come", x.about(1, 3), 40);
        answers("at a place ahead", x, Play.frame(1, 7, 0, new int[4]));
        Due.is("nothing", x.about(1, 3), 40);
        answers("61 bytes in all", x, Play.frame(1, 7, 40, new int[21]));
        Due.is("nothing", x.about(1, 3), 40);
        answers("60 bytes in all", x, Play.frame(1, 7, 40, new int[20]));
        Due.is("come", x.about(1, 3), 60);
        answers("no more", x, Play.frame(1, 7, 60, 1));
        Due.is("60 at most", x.about(1, 3), 60);
    }

    private static void finishesWrites() {
        FarCacheLine x = Play.forgeable();
        Play.write(x, 5, 6);
        answers("without a partial nothing", x, Play.frame(1, 8, 0));
        answers("a partial", x, Play.frameOf(1, 1, 0, Play.digest(5, 6)), Play.frame(1, 12, 0));
        answers("bytes", x, Play.frame(1, 7, 0, 5, 6));
        answers("one byte less", x, Play.frame(1, 8, 1), Play.frame(1, 13, 0, 1));
        answers("one byte more", x, Play.frame(1, 8, 3), Play.frame(1, 13, 0, 1));
        Due.is("the partial stays", x.about(1, 3), 2);
        answers("its data doesn't count", x, Play.frame(1, 8, 2, 9, 9, 9), Play.frame(1, 11, 0));
        Due.is("a blob", x.count(4), 1);
        Due.is("the partial goes", x.about(1, 3), -1);
        answers("once", x, Play.frame(1, 8, 2));

        FarCacheLine y = Play.forgeable();
        int first = Play.write(y, 5, 6);
        int second = Play.write(y, 5, 6);
        y.begin(first, 99);
        y.begin(second, 99);
        Play.settle(y);
        Due.is("both are done", y.end(first) + y.end(second), 2);
        Due.is("one blob", y.count(4), 1);
        Due.is("no partial", y.about(second, 3), -1);
    }

    private static void keepsTenBlobs() {
        FarCacheLine x = new FarCacheLine(40);
        for (int i = 0; i < 10; i++) {
            Play.stored(x, i, 1);
        }
        int same = Play.write(x, 9, 1);
        Play.run(x, same);
        Due.is("one that is there already", x.end(same), 1);
        int eleventh = Play.write(x, 10, 1);
        Play.run(x, eleventh);
        Due.is("no room for an eleventh one", x.end(eleventh), -4);
        Due.is("its partial goes", x.about(eleventh, 3), -1);
        Due.is("ten", x.count(4), 10);
        x.forget(3);
        Due.is("nine", x.count(4), 9);
        Play.stored(x, 10, 1);
        Due.is("ten again", x.count(4), 10);
        for (int i = 0; i <= 10; i++) {
            int read = Play.read(x, i == 10 ? eleventh : i);
            Play.run(x, read);
            Due.is("blob " + i, x.end(read), i == 3 ? -2 : 1);
            Due.is("has its byte", i == 3 ? i : x.got(read, 0), i);
        }
    }

    private static void answersReads() {
        FarCacheLine x = Play.forgeable();
        int[] row = Play.bytes(45, 2);
        Play.stored(x, row);
        long digest = Play.digest(row);
        int[] end = Play.frame(9, 8, 45);
        answers("none such", x, Play.frameOf(9, 2, 0, digest + 1), Play.frame(9, 13, 0, 2));
        answers("all", x, Play.frameOf(9, 2, 0, digest),
                Play.frame(9, 7, 0, Arrays.copyOfRange(row, 0, 40)),
                Play.frame(9, 7, 40, Arrays.copyOfRange(row, 40, 45)), end);
        answers("from 44 on", x, Play.frameOf(9, 2, 44, digest), Play.frame(9, 7, 44, row[44]), end);
        answers("from 45 on", x, Play.frameOf(9, 2, 45, digest), end);
        answers("from 255 on", x, Play.frameOf(9, 2, 255, digest), end);
    }

    private static void answersAsks() {
        FarCacheLine x = Play.forgeable();
        int a = Play.stored(x, 1);
        int b = Play.stored(x, 2);
        Play.run(x, Play.tell(x, 50, a, b, a));
        Play.run(x, Play.tell(x, 51));
        answers("no such result", x, Play.frameOf(9, 3, 0, 52), Play.frame(9, 13, 0, 2));
        answers("without digests", x, Play.frameOf(9, 3, 7, 51), Play.frame(9, 6, 0));
        answers("with three", x, Play.frameOf(9, 3, 0, 50),
                Play.frameOf(9, 5, 0, Play.digest(1)), Play.frameOf(9, 5, 1, Play.digest(2)),
                Play.frameOf(9, 5, 2, Play.digest(1)), Play.frame(9, 6, 3));
        x.forget(b);
        answers("one of which there is no blob", x, Play.frameOf(9, 3, 0, 50), Play.frame(9, 13, 0, 2));
        Due.is("the result stays", x.count(5), 2);
        int c = Play.stored(x, 3);
        Play.run(x, Play.tell(x, 49, b, c));
        answers("the first one is missing", x, Play.frameOf(9, 3, 0, 49), Play.frame(9, 13, 0, 2));
        Play.stored(x, 2);
        Play.arrive(x, 0, Play.frameOf(9, 3, 0, 50));
        Due.is("it counts again", x.count(3), 4);
        x.cut(0, 0);
        Play.run(x, Play.tell(x, 50, b));
        Due.is("in place of one that there is", x.count(5), 3);
        answers("the new one", x, Play.frameOf(9, 3, 0, 50), Play.frameOf(9, 5, 0, Play.digest(2)),
                Play.frame(9, 6, 1));
    }

    private static void takesNotes() {
        FarCacheLine x = Play.forgeable();
        answers("a digest without a note", x, Play.frameOf(9, 5, 0, 1));
        answers("an end without a note", x, Play.frame(9, 6, 0));
        answers("a note", x, Play.frameOf(9, 4, 77, 50));
        answers("a digest of seven bytes", x, Play.frame(9, 5, 0, new int[7]));
        answers("a digest of nine bytes", x, Play.frame(9, 5, 0, new int[9]));
        answers("a digest at a later place", x, Play.frameOf(9, 5, 1, 1));
        answers("is nothing", x, Play.frame(9, 6, 1), Play.frame(9, 13, 0, 1));
        for (int i = 0; i < 3; i++) {
            answers("a digest", x, Play.frameOf(9, 5, i, 0));
        }
        answers("a fourth one", x, Play.frameOf(9, 5, 3, 0));
        answers("is nothing", x, Play.frame(9, 6, 4), Play.frame(9, 13, 0, 1));
        Due.is("no result yet", x.count(5), 0);
        answers("three", x, Play.frame(9, 6, 3, 1, 2), Play.frame(9, 11, 0));
        Due.is("a result", x.count(5), 1);
        answers("the note went", x, Play.frame(9, 6, 3));
        answers("another note", x, Play.frameOf(9, 4, 0, 60));
        answers("a digest", x, Play.frameOf(9, 5, 0, 1));
        answers("a note in its place", x, Play.frameOf(9, 4, 0, 61));
        answers("is without digests", x, Play.frame(9, 6, 0), Play.frame(9, 11, 0));
        answers("with its action", x, Play.frameOf(9, 3, 0, 61), Play.frame(9, 6, 0));
        answers("and no other one", x, Play.frameOf(9, 3, 0, 60), Play.frame(9, 13, 0, 2));
    }

    private static void keepsTenResults() {
        FarCacheLine x = new FarCacheLine(8);
        int write = Play.stored(x, 1);
        for (int i = 0; i < 10; i++) {
            Play.run(x, Play.tell(x, i));
            Due.is("results", x.count(5), i + 1);
        }
        int eleventh = Play.tell(x, 10);
        Play.run(x, eleventh);
        Due.is("no room for an eleventh one", x.end(eleventh), -4);
        int same = Play.tell(x, 9, write);
        Play.run(x, same);
        Due.is("in place of one that there is", x.end(same), 1);
        Due.is("ten", x.count(5), 10);
        int ask = x.call(Play.ASK, 9);
        Play.run(x, ask);
        Due.is("the new one", x.named(ask, 0), Play.digest(1));
        int none = x.call(Play.ASK, 10);
        Play.run(x, none);
        Due.is("the eleventh isn't there", x.end(none), -2);
        for (int i = 0; i < 9; i++) {
            int other = x.call(Play.ASK, i);
            Play.run(x, other);
            Due.is("the others are", x.end(other), 1);
        }
    }

    private static void isBusyForRequestsAlone() {
        FarCacheLine x = Play.forgeable();
        int[] error = Play.frame(9, 13, 0, 1);
        int[] row = Play.bytes(3, 8);
        x.busy(5);
        answers("a find", x, Play.frameOf(9, 0, 0, 5), Play.frame(9, 10, 0, 0));
        answers("a write's end without a partial", x, Play.frame(9, 8, 0));
        answers("a note's end without a note", x, Play.frame(9, 6, 0));
        answers("a write", x, Play.frameOf(9, 1, 0, Play.digest(row)), Play.frame(9, 12, 0));
        answers("a piece", x, Play.frame(9, 7, 0, row));
        answers("a note", x, Play.frameOf(9, 4, 0, 5));
        answers("its digest", x, Play.frameOf(9, 5, 0, 5));
        Due.is("none of these counts", x.count(8), 5);
        answers("a write's end", x, Play.frame(9, 8, 7), error);
        answers("a note's end", x, Play.frame(9, 6, 7), error);
        Due.is("these count", x.count(8), 3);
        answers("a read", x, Play.frameOf(9, 2, 0, 1), error);
        answers("an ask", x, Play.frameOf(9, 3, 0, 1), error);
        answers("a read", x, Play.frameOf(9, 2, 0, 1), error);
        Due.is("not busy any more", x.count(8), 0);
        answers("an ask", x, Play.frameOf(9, 3, 0, 1), Play.frame(9, 13, 0, 2));
        answers("the partial stayed", x, Play.frame(9, 8, 3), Play.frame(9, 11, 0));
        answers("the note too", x, Play.frame(9, 6, 1), Play.frame(9, 11, 0));
        Due.is("never below 0", x.count(8), 0);
    }

    private static void otherFramesAreNothing() {
        FarCacheLine x = Play.forgeable();
        for (int kind : new int[] {9, 10, 11, 12, 13, 14, 128, 255}) {
            answers("kind " + kind, x, Play.frameOf(9, kind, 0, 0));
            answers("kind " + kind, x, Play.frame(9, kind, 0));
        }
        FarCacheLine y = Play.forgeable();
        y.busy(9);
        for (int kind = 0; kind <= 5; kind++) {
            answers("seven bytes, kind " + kind, y, Play.frame(9, kind, 0, new int[7]));
            answers("nine bytes, kind " + kind, y, Play.frame(9, kind, 0, new int[9]));
        }
        Due.is("no request", y.count(8), 9);
        answers("no note", y, Play.frame(9, 6, 0));
        answers("no partial", y, Play.frame(9, 8, 0));
        Due.is("nothing broke", x.count(6) + y.count(6), 0);
    }
}
