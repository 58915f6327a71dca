import java.util.Arrays;

/** The document's Terms of the SERVER: what it holds, and how it acts by the kind of a frame. */
public final class ServerTest {
    private static final int[] AGAIN = Play.frame(9, 13, 0, 1);
    private static final int[] NOT_THERE = Play.frame(9, 13, 0, 2);
    private static final int[] DIFFERS = Play.frame(9, 13, 0, 3);
    private static final int[] NO_ROOM = Play.frame(9, 13, 0, 4);
    private static final int[] DONE = Play.frame(9, 11, 0);

    private ServerTest() {
    }

    public static void main(String[] args) {
        Suite.run(ServerTest.class);
    }

    /** The server's answer to a frame is just these frames. */
    private static void answers(String what, FarCacheLine x, int[] frame, int[]... due) {
        Play.arrive(x, 0, frame);
        Play.due(what, x, 1, due);
        x.cut(0, 0);
    }

    /** Lets call 9 have a partial with these bytes, made by this digest. */
    private static void partial(FarCacheLine x, long digest, int... row) {
        answers("a new partial", x, Play.frameOf(9, 1, 0, digest), Play.frame(9, 12, 0));
        answers("its bytes", x, Play.frame(9, 7, 0, row));
    }

    private static void store(FarCacheLine x, int... row) {
        partial(x, Play.digest(row), row);
        answers("a blob", x, Play.frame(9, 8, row.length), DONE);
    }

    private static void note(FarCacheLine x, long action, long... digests) {
        answers("a note", x, Play.frameOf(9, 4, 0, action));
        for (int i = 0; i < digests.length; i++) {
            answers("its digest", x, Play.frameOf(9, 5, i, digests[i]));
        }
    }

    private static void result(FarCacheLine x, long action, long... digests) {
        note(x, action, digests);
        answers("a result", x, Play.frame(9, 6, digests.length), DONE);
    }

    @Says("The SERVER has at most 10 BLOBS:")
    static void termsThereAreAtMost10Blobs() {
        FarCacheLine x = new FarCacheLine(40);
        for (int i = 1; i <= 10; i++) {
            Play.stored(x, i, 1);
            Due.is("blobs", x.count(4), i);
        }
        int eleventh = Play.write(x, 11, 1);
        Play.run(x, eleventh);
        Due.is("no room", x.end(eleventh), -4);
        Due.is("ten", x.count(4), 10);
        for (int i = 0; i < 10; i++) {
            int read = Play.read(x, i);
            Play.run(x, read);
            Due.is("each is there", x.got(read, 0), i + 1);
        }
    }

    @Says("rows of at most 60 bytes by their DIGESTS;")
    static void termsABlobHasUpTo60Bytes() {
        for (int size : new int[] {0, 1, 40, 41, 59, 60}) {
            FarCacheLine x = new FarCacheLine(40);
            int[] row = Play.bytes(size, 3);
            int read = Play.read(x, Play.stored(x, row));
            Play.run(x, read);
            Due.is("read", x.end(read), 1);
            Due.is("bytes", x.about(read, 2), size);
            for (int i = 0; i < size; i++) {
                Due.is("byte " + i, x.got(read, i), row[i]);
            }
        }
    }

    @Says("at most 10 RESULTS: an ACTION (64 bits)")
    static void termsThereAreAtMost10Results() {
        FarCacheLine x = Play.forgeable();
        for (int i = 1; i <= 10; i++) {
            result(x, (long) i << 60 | i);
            Due.is("results", x.count(5), i);
        }
        note(x, 1);
        answers("no room for an eleventh one, which differs in the highest bits", x, Play.frame(9, 6, 0), NO_ROOM);
        Due.is("ten", x.count(5), 10);
        for (int i = 1; i <= 10; i++) {
            answers("each is there", x, Play.frameOf(9, 3, 0, (long) i << 60 | i), Play.frame(9, 6, 0));
        }
        answers("the eleventh isn't", x, Play.frameOf(9, 3, 0, 1), NOT_THERE);
    }

    @Says("with at most 3 DIGESTS;")
    static void termsAResultHasUpTo3Digests() {
        FarCacheLine x = Play.forgeable();
        store(x, 5);
        long digest = Play.digest(5);
        result(x, 1, digest, digest, digest);
        note(x, 2, digest, digest, digest, digest);
        answers("four didn't come", x, Play.frame(9, 6, 4), AGAIN);
        answers("three did", x, Play.frame(9, 6, 3), DONE);
        for (int action = 1; action <= 2; action++) {
            answers("three", x, Play.frameOf(9, 3, 0, action), Play.frameOf(9, 5, 0, digest),
                    Play.frameOf(9, 5, 1, digest), Play.frameOf(9, 5, 2, digest), Play.frame(9, 6, 3));
        }
    }

    @Says("PARTIALS, one a CALL: bytes of a WRITE that came;")
    static void termsEachCallHasAPartialOfItsOwn() {
        FarCacheLine x = Play.forgeable();
        for (int number = 1; number < 30; number++) {
            answers("a partial", x, Play.frameOf(number, 1, 0, 77 + number), Play.frame(number, 12, 0));
            answers("its bytes", x, Play.frame(number, 7, 0, new int[number]));
        }
        for (int number = 1; number < 30; number++) {
            answers("its own", x, Play.frameOf(number, 1, 0, 77 + number), Play.frame(number, 12, number));
        }
        answers("the partial of call 29 goes", x, Play.frame(29, 8, 29), Play.frame(29, 13, 0, 3));
        answers("that of call 28 stays", x, Play.frameOf(28, 1, 0, 77), Play.frame(28, 12, 28));
    }

    @Says("NOTES, one a CALL: an ACTION with DIGESTS that came;")
    static void termsEachCallHasANoteOfItsOwn() {
        FarCacheLine x = Play.forgeable();
        for (int number = 0; number < 30; number++) {
            answers("a note", x, Play.frameOf(number, 4, 0, number % 10));
            for (int i = 0; i < number % 4; i++) {
                answers("a digest", x, Play.frameOf(number, 5, i, 0));
            }
        }
        for (int number = 0; number < 30; number++) {
            answers("not its own", x, Play.frame(number, 6, number % 4 + 1), Play.frame(number, 13, 0, 1));
            answers("its own", x, Play.frame(number, 6, number % 4), Play.frame(number, 11, 0));
            answers("it went", x, Play.frame(number, 6, number % 4));
        }
        Due.is("of ten actions", x.count(5), 10);
    }

    @Says("and it is BUSY for so many requests.")
    static void termsTheServerIsBusyForSoManyRequests() {
        FarCacheLine x = Play.forgeable();
        partial(x, Play.digest(1), 1);
        note(x, 4);
        x.busy(4);
        answers("a read", x, Play.frameOf(9, 2, 0, 0), AGAIN);
        answers("an ask", x, Play.frameOf(9, 3, 0, 0), AGAIN);
        answers("a write's end", x, Play.frame(9, 8, 1), AGAIN);
        Due.is("one more", x.count(8), 1);
        answers("a tell's end", x, Play.frame(9, 6, 0), AGAIN);
        Due.is("no more", x.count(8), 0);
        answers("a read", x, Play.frameOf(9, 2, 0, 0), NOT_THERE);
        Due.is("not below 0", x.count(8), 0);
    }

    @Says("and it is BUSY for so many requests.")
    static void termsOtherFramesAreNoRequests() {
        FarCacheLine x = Play.forgeable();
        x.busy(1);
        answers("a find", x, Play.frameOf(9, 0, 0, 5), Play.frame(9, 10, 0, 0));
        answers("a write's end without a partial", x, Play.frame(9, 8, 0));
        answers("a tell's end without a note", x, Play.frame(9, 6, 0));
        answers("a write", x, Play.frameOf(9, 1, 0, 5), Play.frame(9, 12, 0));
        answers("a piece", x, Play.frame(9, 7, 0, 1, 2));
        answers("a tell", x, Play.frameOf(9, 4, 0, 5));
        answers("its digest", x, Play.frameOf(9, 5, 0, 5));
        Due.is("still busy", x.count(8), 1);
    }

    @Says({"The SERVER ACTS (answers have the same number;", "By KIND: 0: KIND 10, the same PLACE,"})
    static void termsAFindIsAnsweredWithItsNumberAndPlace() {
        FarCacheLine x = Play.forgeable();
        for (int number : new int[] {0, 1, 29}) {
            for (int place : new int[] {0, 3, 4, 255}) {
                answers("the same", x, Play.frameOf(number, 0, place, 1), Play.frame(number, 10, place, 0));
            }
        }
    }

    @Says("one byte: 1 if there is a BLOB of this DIGEST, else 0.")
    static void termsAFindIsAnsweredByTheBlobs() {
        FarCacheLine x = Play.forgeable();
        answers("no blob", x, Play.frameOf(9, 0, 0, 0), Play.frame(9, 10, 0, 0));
        for (int i = 0; i < 10; i++) {
            store(x, 200, i);
        }
        long last = Play.digest(200, 9);
        answers("the first one", x, Play.frameOf(9, 0, 0, Play.digest(200, 0)), Play.frame(9, 10, 0, 1));
        answers("the tenth one", x, Play.frameOf(9, 0, 0, last), Play.frame(9, 10, 0, 1));
        answers("one lower", x, Play.frameOf(9, 0, 0, last - 1), Play.frame(9, 10, 0, 0));
        answers("the highest bit counts", x, Play.frameOf(9, 0, 0, last ^ Long.MIN_VALUE), Play.frame(9, 10, 0, 0));
        answers("no blob of 0 by that", x, Play.frameOf(9, 0, 0, 0), Play.frame(9, 10, 0, 0));
    }

    @Says("one byte: 1 if there is a BLOB of this DIGEST, else 0.")
    static void termsTheEmptyBlobIsABlob() {
        FarCacheLine x = Play.forgeable();
        store(x);
        Due.is("a blob", x.count(4), 1);
        answers("of no bytes, whose digest is 0", x, Play.frameOf(9, 0, 0, 0), Play.frame(9, 10, 0, 1));
    }

    @Says("an ERROR is KIND 13, PLACE 0, one byte: the reason).")
    static void termsAnErrorHasPlace0AndOneByte() {
        FarCacheLine x = Play.forgeable();
        answers("a read at place 44", x, Play.frameOf(3, 2, 44, 1), new int[] {5, 3, 13, 0, 2, 23});
        answers("an ask at place 255", x, Play.frameOf(29, 3, 255, 1), new int[] {5, 29, 13, 0, 2, 49});
    }

    @Says("1: if there is such a BLOB: its CALL's PARTIAL goes, KIND 11;")
    static void termsAWriteOfABlobIsDone() {
        FarCacheLine x = Play.forgeable();
        long digest = Play.digest(5, 6);
        partial(x, digest, 5);
        answers("a partial of another call", x, Play.frameOf(8, 1, 0, digest), Play.frame(8, 12, 0));
        answers("its bytes", x, Play.frame(8, 7, 0, 5, 6));
        answers("is a blob", x, Play.frame(8, 8, 2), Play.frame(8, 11, 0));
        answers("a write of it is done", x, Play.frameOf(9, 1, 7, digest), DONE);
        answers("its partial went", x, Play.frame(9, 8, 1));
        answers("without a partial too", x, Play.frameOf(9, 1, 0, digest), DONE);
        answers("a new one is empty", x, Play.frameOf(9, 1, 0, 1), Play.frame(9, 12, 0));
    }

    @Says("else KIND 12, PLACE how many bytes its PARTIAL has")
    static void termsAWriteGoesOnWhereItsPartialEnds() {
        FarCacheLine x = Play.forgeable();
        partial(x, 5, Play.bytes(40, 1));
        answers("40", x, Play.frameOf(9, 1, 0, 5), Play.frame(9, 12, 40));
        answers("whatever its place is", x, Play.frameOf(9, 1, 3, 5), Play.frame(9, 12, 40));
        answers("20 more", x, Play.frame(9, 7, 40, new int[20]));
        answers("all 60", x, Play.frameOf(9, 1, 0, 5), Play.frame(9, 12, 60));
    }

    @Says("(a new one, empty, if there is none).")
    static void termsAWriteWithoutAPartialMakesOne() {
        FarCacheLine x = Play.forgeable();
        int write = Play.write(x, 5);
        Due.is("none", x.about(write, 3), -1);
        answers("a new one", x, Play.frameOf(write, 1, 0, 5), Play.frame(write, 12, 0));
        Due.is("empty", x.about(write, 3), 0);
        answers("a byte", x, Play.frame(write, 7, 0, 5));
        answers("it differs, and goes", x, Play.frame(write, 8, 1), Play.frame(write, 13, 0, 3));
        Due.is("none", x.about(write, 3), -1);
        answers("a new one", x, Play.frameOf(write, 1, 0, 5), Play.frame(write, 12, 0));
        Due.is("empty again", x.about(write, 3), 0);
    }

    @Says("7: if its PARTIAL has just PLACE bytes,")
    static void termsAPieceComesAtJustThePartialsEnd() {
        FarCacheLine x = Play.forgeable();
        int write = Play.write(x, 5);
        answers("without a partial", x, Play.frame(write, 7, 0, 5));
        Due.is("nothing", x.about(write, 3), -1);
        answers("a partial", x, Play.frameOf(write, 1, 0, 1), Play.frame(write, 12, 0));
        answers("a place behind its end", x, Play.frame(write, 7, 1, 5));
        Due.is("nothing", x.about(write, 3), 0);
        answers("just its end", x, Play.frame(write, 7, 0, 5, 6, 7));
        Due.is("they come", x.about(write, 3), 3);
        for (int place : new int[] {0, 2, 4, 255}) {
            answers("another place", x, Play.frame(write, 7, place, 9));
            Due.is("nothing", x.about(write, 3), 3);
        }
        answers("just its end", x, Play.frame(write, 7, 3, 9));
        Due.is("it comes", x.about(write, 3), 4);
    }

    @Says("7: if its PARTIAL has just PLACE bytes, and there would be at most 60, they come behind.")
    static void termsAPartialHasAtMost60Bytes() {
        FarCacheLine x = Play.forgeable();
        int write = Play.write(x, 5);
        answers("a partial", x, Play.frameOf(write, 1, 0, 1), Play.frame(write, 12, 0));
        answers("no bytes", x, Play.frame(write, 7, 0));
        Due.is("none come", x.about(write, 3), 0);
        answers("40 bytes", x, Play.frame(write, 7, 0, new int[40]));
        answers("61 in all", x, Play.frame(write, 7, 40, new int[21]));
        Due.is("none of them comes", x.about(write, 3), 40);
        answers("60 in all", x, Play.frame(write, 7, 40, new int[20]));
        Due.is("all of them come", x.about(write, 3), 60);
        answers("one more", x, Play.frame(write, 7, 60, 1));
        answers("none more", x, Play.frame(write, 7, 60));
        Due.is("60", x.about(write, 3), 60);
    }

    @Says("7: if its PARTIAL has just PLACE bytes, and there would be at most 60, they come behind.")
    static void termsPiecesComeBehindOneAnother() {
        FarCacheLine x = Play.forgeable();
        partial(x, Play.digest(1, 2, 3, 4, 5), 1, 2);
        answers("a piece", x, Play.frame(9, 7, 2, 3));
        answers("a piece", x, Play.frame(9, 7, 3, 4, 5));
        answers("in this order they are the row", x, Play.frame(9, 8, 5), DONE);
    }

    @Says("8: without a PARTIAL nothing;")
    static void termsTheEndOfAWriteWithoutAPartialIsNothing() {
        FarCacheLine x = Play.forgeable();
        x.busy(1);
        answers("nothing", x, Play.frame(9, 8, 0));
        Due.is("busy as before", x.count(8), 1);
        x.busy(0);
        answers("nothing", x, Play.frame(9, 8, 0));
        Due.is("no blob of no bytes", x.count(4), 0);
        store(x, 1);
        answers("nothing once more", x, Play.frame(9, 8, 1));
    }

    @Says("BUSY: ERROR 1 (and BUSY for one less);")
    static void termsTheEndOfAWriteIsPutOffByABusyServer() {
        FarCacheLine x = Play.forgeable();
        partial(x, Play.digest(4), 4);
        x.busy(2);
        answers("put off", x, Play.frame(9, 8, 1), AGAIN);
        Due.is("one less", x.count(8), 1);
        answers("put off, ahead of what its place is", x, Play.frame(9, 8, 2), AGAIN);
        Due.is("one less", x.count(8), 0);
        Due.is("no blob", x.count(4), 0);
        answers("the partial stayed", x, Play.frame(9, 8, 1), DONE);
        Due.is("a blob", x.count(4), 1);
    }

    @Says("if the PARTIAL has not just PLACE bytes: ERROR 1;")
    static void termsTheEndOfAWriteAtAnotherPlaceIsAnError() {
        FarCacheLine x = Play.forgeable();
        partial(x, Play.digest(4, 5), 4, 5);
        for (int place : new int[] {0, 1, 3, 255}) {
            answers("another place", x, Play.frame(9, 8, place), AGAIN);
        }
        Due.is("no blob", x.count(4), 0);
        answers("the partial stayed", x, Play.frame(9, 8, 2), DONE);
    }

    @Says("else the PARTIAL goes: if its DIGEST isn't the one of KIND 1 that made it: ERROR 3;")
    static void termsAPartialThatDiffersIsAnError() {
        FarCacheLine x = Play.forgeable();
        partial(x, Play.digest(4, 5) ^ Long.MIN_VALUE, 4, 5);
        answers("differs", x, Play.frame(9, 8, 2), DIFFERS);
        answers("it went", x, Play.frame(9, 8, 2));
        Due.is("no blob", x.count(4), 0);
        partial(x, 1);
        answers("no bytes differ too", x, Play.frame(9, 8, 0), DIFFERS);
    }

    @Says("else the PARTIAL goes: if its DIGEST isn't the one of KIND 1 that made it: ERROR 3;")
    static void termsTheKind1ThatMadeAPartialCounts() {
        FarCacheLine x = Play.forgeable();
        partial(x, 1234, 5);
        answers("a later one", x, Play.frameOf(9, 1, 0, Play.digest(5)), Play.frame(9, 12, 1));
        answers("doesn't count", x, Play.frame(9, 8, 1), DIFFERS);
        partial(x, Play.digest(5), 5);
        answers("a later one", x, Play.frameOf(9, 1, 0, 1234), Play.frame(9, 12, 1));
        answers("doesn't count", x, Play.frame(9, 8, 1), DONE);
    }

    @Says("if there is such a BLOB: KIND 11; if there are 10 BLOBS: ERROR 4;")
    static void termsABlobThatIsThereIsDoneAmong10Too() {
        FarCacheLine x = Play.forgeable();
        partial(x, Play.digest(9, 9), 9, 9);
        int[] numbers = {1, 2, 3, 4, 5, 6, 7, 8, 10, 11};
        for (int i = 0; i < 10; i++) {
            int number = numbers[i];
            int[] row = i < 9 ? new int[] {7, i} : new int[] {9, 9};
            answers("a partial", x, Play.frameOf(number, 1, 0, Play.digest(row)), Play.frame(number, 12, 0));
            answers("its bytes", x, Play.frame(number, 7, 0, row));
            answers("a blob", x, Play.frame(number, 8, 2), Play.frame(number, 11, 0));
        }
        Due.is("ten", x.count(4), 10);
        answers("such a blob is there", x, Play.frame(9, 8, 2), DONE);
        Due.is("ten still", x.count(4), 10);
        answers("the partial went", x, Play.frame(9, 8, 2));
    }

    @Says("if there is such a BLOB: KIND 11; if there are 10 BLOBS: ERROR 4;")
    static void termsThereIsNoRoomForAnEleventhBlob() {
        FarCacheLine x = Play.forgeable();
        for (int i = 0; i < 10; i++) {
            store(x, 7, i);
        }
        partial(x, Play.digest(8), 8);
        answers("no room", x, Play.frame(9, 8, 1), NO_ROOM);
        answers("the partial went", x, Play.frame(9, 8, 1));
        Due.is("ten", x.count(4), 10);
        partial(x, 1, 8);
        answers("one that differs is an error of its own", x, Play.frame(9, 8, 1), DIFFERS);
    }

    @Says("else it is a BLOB: KIND 11.")
    static void termsAWholePartialIsABlob() {
        FarCacheLine x = Play.forgeable();
        for (int i = 0; i < 10; i++) {
            partial(x, Play.digest(i, 5), i, 5);
            answers("done", x, Play.frame(9, 8, 2), DONE);
            Due.is("blobs", x.count(4), i + 1);
            answers("read", x, Play.frameOf(9, 2, 0, Play.digest(i, 5)), Play.frame(9, 7, 0, i, 5), Play.frame(9, 8, 2));
        }
    }

    @Says("2: BUSY: as above;")
    static void termsAReadIsPutOffByABusyServer() {
        FarCacheLine x = Play.forgeable();
        store(x, 4);
        x.busy(2);
        answers("of what is there", x, Play.frameOf(9, 2, 0, Play.digest(4)), AGAIN);
        Due.is("one less", x.count(8), 1);
        answers("of what isn't there", x, Play.frameOf(9, 2, 0, 1), AGAIN);
        Due.is("one less", x.count(8), 0);
        answers("not any more", x, Play.frameOf(9, 2, 0, Play.digest(4)), Play.frame(9, 7, 0, 4), Play.frame(9, 8, 1));
    }

    @Says("no BLOB of this DIGEST: ERROR 2;")
    static void termsAReadOfNoBlobIsAnError() {
        FarCacheLine x = Play.forgeable();
        answers("an empty server", x, Play.frameOf(9, 2, 0, 0), NOT_THERE);
        store(x, 4);
        answers("another digest", x, Play.frameOf(9, 2, 0, Play.digest(4) + 1), NOT_THERE);
        answers("no blob of 0", x, Play.frameOf(9, 2, 0, 0), NOT_THERE);
        answers("whatever its place is", x, Play.frameOf(9, 2, 255, 0), NOT_THERE);
    }

    @Says({"else the BLOB from PLACE on IN PIECES.", "IN PIECES: a row's bytes from a PLACE on"})
    static void termsAReadIsAnsweredFromItsPlaceOn() {
        FarCacheLine x = Play.forgeable();
        int[] row = Play.bytes(45, 2);
        Play.stored(x, row);
        int[] end = Play.frame(9, 8, 45);
        answers("all", x, Play.frameOf(9, 2, 0, Play.digest(row)),
                Play.frame(9, 7, 0, Arrays.copyOfRange(row, 0, 40)),
                Play.frame(9, 7, 40, Arrays.copyOfRange(row, 40, 45)), end);
        answers("from 1 on", x, Play.frameOf(9, 2, 1, Play.digest(row)),
                Play.frame(9, 7, 1, Arrays.copyOfRange(row, 1, 41)),
                Play.frame(9, 7, 41, Arrays.copyOfRange(row, 41, 45)), end);
        answers("the last one", x, Play.frameOf(9, 2, 44, Play.digest(row)), Play.frame(9, 7, 44, row[44]), end);
    }

    @Says("(none, if it has not so many),")
    static void termsFromThereOnARowHasNoBytes() {
        FarCacheLine x = Play.forgeable();
        int[] row = Play.bytes(45, 2);
        Play.stored(x, row);
        for (int place : new int[] {45, 46, 60, 61, 255}) {
            answers("from " + place + " on", x, Play.frameOf(9, 2, place, Play.digest(row)), Play.frame(9, 8, 45));
        }
        store(x);
        answers("an empty row", x, Play.frameOf(9, 2, 0, 0), Play.frame(9, 8, 0));
        answers("an empty row", x, Play.frameOf(9, 2, 1, 0), Play.frame(9, 8, 0));
    }

    @Says("by PIECE (the last ones fewer): KIND 7, PLACE where they begin, the bytes;")
    static void termsTheLastPieceIsShorter() {
        int[] row = Play.bytes(60, 3);
        FarCacheLine x = new FarCacheLine(25);
        int write = Play.write(x, row);
        x.begin(write, 9);
        x.carry(0, 13);
        x.carry(1, 5);
        Play.due("25, 25 and 10", x, 0,
                Play.frame(write, 7, 0, Arrays.copyOfRange(row, 0, 25)),
                Play.frame(write, 7, 25, Arrays.copyOfRange(row, 25, 50)),
                Play.frame(write, 7, 50, Arrays.copyOfRange(row, 50, 60)),
                Play.frame(write, 8, 60));
    }

    @Says("by PIECE (the last ones fewer): KIND 7, PLACE where they begin, the bytes;")
    static void termsARowOfWholePiecesHasNoShorterOne() {
        for (int pieces = 1; pieces <= 2; pieces++) {
            FarCacheLine x = new FarCacheLine(30);
            x.begin(Play.write(x, Play.bytes(30 * pieces, 3)), 9);
            x.carry(0, 13);
            x.carry(1, 5);
            Due.is("pieces and the end", x.count(2), pieces + 1);
            Due.is("bytes", x.count(0), 35 * pieces + 5);
        }
        FarCacheLine y = new FarCacheLine(30);
        y.begin(Play.write(y, Play.bytes(31, 3)), 9);
        y.carry(0, 13);
        y.carry(1, 5);
        Due.is("one byte more: one piece more", y.count(0), 35 + 6 + 5);
    }

    @Says("then KIND 8, PLACE how many the row has.")
    static void termsPiecesEndWithHowManyTheRowHas() {
        for (int size : new int[] {0, 1, 8, 9, 60}) {
            FarCacheLine x = new FarCacheLine(8);
            int write = Play.write(x, Play.bytes(size, 3));
            x.begin(write, 9);
            x.carry(0, 13);
            x.carry(1, 5);
            int last = x.count(0) - 5;
            Due.is("kind", x.underway(0, last + 2), 8);
            Due.is("place", x.underway(0, last + 3), size);
            Due.is("frames", x.count(2), (size + 7) / 8 + 1);
        }
    }

    @Says("3: BUSY;")
    static void termsAnAskIsPutOffByABusyServer() {
        FarCacheLine x = Play.forgeable();
        result(x, 50);
        x.busy(2);
        answers("for what is there", x, Play.frameOf(9, 3, 0, 50), AGAIN);
        Due.is("one less", x.count(8), 1);
        answers("for what isn't there", x, Play.frameOf(9, 3, 0, 51), AGAIN);
        Due.is("one less", x.count(8), 0);
        answers("not any more", x, Play.frameOf(9, 3, 0, 50), Play.frame(9, 6, 0));
    }

    @Says("no RESULT for this ACTION,")
    static void termsAnAskForNoResultIsAnError() {
        FarCacheLine x = Play.forgeable();
        answers("an empty server", x, Play.frameOf(9, 3, 0, 0), NOT_THERE);
        result(x, 50);
        answers("another action", x, Play.frameOf(9, 3, 0, 51), NOT_THERE);
        answers("the highest bit counts", x, Play.frameOf(9, 3, 0, 50 ^ Long.MIN_VALUE), NOT_THERE);
        answers("no result for 0", x, Play.frameOf(9, 3, 0, 0), NOT_THERE);
    }

    @Says("or one that NAMES a DIGEST of which there is no BLOB: ERROR 2;")
    static void termsAResultCountsOnlyWithItsBlobs() {
        FarCacheLine x = Play.forgeable();
        int[] writes = {Play.stored(x, 1), Play.stored(x, 2), Play.stored(x, 3)};
        Play.run(x, Play.tell(x, 50, writes));
        for (int i = 0; i < 3; i++) {
            x.forget(writes[i]);
            answers("digest " + i + " is missing", x, Play.frameOf(9, 3, 0, 50), NOT_THERE);
            Due.is("the result stays", x.count(5), 1);
            Play.stored(x, i + 1);
            Play.arrive(x, 0, Play.frameOf(9, 3, 0, 50));
            Due.is("it counts again", x.count(3), 4);
            x.cut(0, 0);
        }
        result(x, 51, 1234);
        answers("a result of which there was never a blob", x, Play.frameOf(9, 3, 0, 51), NOT_THERE);
    }

    @Says("else for each of its DIGESTS KIND 5, PLACE which one, and KIND 6, PLACE how many.")
    static void termsAnAskIsAnsweredWithTheDigests() {
        FarCacheLine x = Play.forgeable();
        store(x, 1);
        store(x, 2);
        long a = Play.digest(1);
        long b = Play.digest(2);
        result(x, 50, b, a, b);
        result(x, 51, b);
        result(x, 52);
        answers("three", x, Play.frameOf(9, 3, 0, 50), Play.frameOf(9, 5, 0, b), Play.frameOf(9, 5, 1, a),
                Play.frameOf(9, 5, 2, b), Play.frame(9, 6, 3));
        answers("one", x, Play.frameOf(9, 3, 7, 51), Play.frameOf(9, 5, 0, b), Play.frame(9, 6, 1));
        answers("none", x, Play.frameOf(9, 3, 0, 52), Play.frame(9, 6, 0));
    }

    @Says("4: a NOTE (in place of one that there is) without DIGESTS.")
    static void termsANewNoteIsInPlaceOfTheOldOne() {
        FarCacheLine x = Play.forgeable();
        note(x, 60, 1, 2);
        answers("a new one, whatever its place is", x, Play.frameOf(9, 4, 77, 61));
        answers("has not two", x, Play.frame(9, 6, 2), AGAIN);
        answers("but none", x, Play.frame(9, 6, 0), DONE);
        answers("its action has a result", x, Play.frameOf(9, 3, 0, 61), Play.frame(9, 6, 0));
        answers("the old one's hasn't", x, Play.frameOf(9, 3, 0, 60), NOT_THERE);
    }

    @Says("5: if its NOTE has just PLACE DIGESTS,")
    static void termsADigestComesAtJustTheNotesEnd() {
        FarCacheLine x = Play.forgeable();
        answers("without a note", x, Play.frameOf(9, 5, 0, 1));
        answers("nothing", x, Play.frame(9, 6, 1));
        note(x, 60);
        answers("a later place", x, Play.frameOf(9, 5, 1, 1));
        answers("it didn't come", x, Play.frame(9, 6, 1), AGAIN);
        answers("just its end", x, Play.frameOf(9, 5, 0, 1));
        answers("an earlier place", x, Play.frameOf(9, 5, 0, 2));
        answers("it didn't come", x, Play.frame(9, 6, 2), AGAIN);
        answers("one came", x, Play.frame(9, 6, 1), DONE);
    }

    @Says("fewer than 3: one more. 6:")
    static void termsANoteHasAtMost3Digests() {
        FarCacheLine x = Play.forgeable();
        note(x, 60, 1, 2, 3);
        answers("a fourth one", x, Play.frameOf(9, 5, 3, 4));
        answers("didn't come", x, Play.frame(9, 6, 4), AGAIN);
        answers("three came", x, Play.frame(9, 6, 3), DONE);
    }

    @Says("6: without a NOTE nothing; BUSY;")
    static void termsTheEndOfATellWithoutANoteIsNothing() {
        FarCacheLine x = Play.forgeable();
        x.busy(1);
        answers("nothing", x, Play.frame(9, 6, 0));
        Due.is("busy as before", x.count(8), 1);
        x.busy(0);
        answers("nothing", x, Play.frame(9, 6, 0));
        Due.is("no result", x.count(5), 0);
        result(x, 3);
        answers("the note went", x, Play.frame(9, 6, 0));
    }

    @Says("6: without a NOTE nothing; BUSY;")
    static void termsTheEndOfATellIsPutOffByABusyServer() {
        FarCacheLine x = Play.forgeable();
        note(x, 60, 1);
        x.busy(2);
        answers("put off", x, Play.frame(9, 6, 1), AGAIN);
        Due.is("one less", x.count(8), 1);
        answers("put off, ahead of what its place is", x, Play.frame(9, 6, 3), AGAIN);
        Due.is("one less", x.count(8), 0);
        Due.is("no result", x.count(5), 0);
        answers("the note stayed", x, Play.frame(9, 6, 1), DONE);
    }

    @Says("if the NOTE has not just PLACE DIGESTS: ERROR 1;")
    static void termsTheEndOfATellAtAnotherPlaceIsAnError() {
        FarCacheLine x = Play.forgeable();
        note(x, 60, 1, 2);
        for (int place : new int[] {0, 1, 3, 255}) {
            answers("another place", x, Play.frame(9, 6, place), AGAIN);
        }
        Due.is("no result", x.count(5), 0);
        answers("the note stayed", x, Play.frame(9, 6, 2), DONE);
    }

    @Says("else the NOTE goes: it becomes the RESULT for its ACTION (in place of one that there is;")
    static void termsANoteBecomesTheResultInPlaceOfOne() {
        FarCacheLine x = Play.forgeable();
        store(x, 1);
        long digest = Play.digest(1);
        result(x, 50, digest, digest);
        Due.is("a result", x.count(5), 1);
        answers("the note went", x, Play.frame(9, 6, 2));
        result(x, 50, digest);
        Due.is("one still", x.count(5), 1);
        answers("the new one", x, Play.frameOf(9, 3, 0, 50), Play.frameOf(9, 5, 0, digest), Play.frame(9, 6, 1));
        result(x, 50);
        answers("the newest one", x, Play.frameOf(9, 3, 0, 50), Play.frame(9, 6, 0));
    }

    @Says("ERROR 4 if there are 10 others): KIND 11.")
    static void termsThereIsNoRoomForAnEleventhResult() {
        FarCacheLine x = Play.forgeable();
        for (int i = 0; i < 10; i++) {
            result(x, i);
        }
        note(x, 10);
        answers("ten others", x, Play.frame(9, 6, 0), NO_ROOM);
        answers("the note went", x, Play.frame(9, 6, 0));
        Due.is("ten", x.count(5), 10);
        result(x, 9);
        result(x, 0);
        Due.is("in place of one of ten", x.count(5), 10);
    }

    @Says("(8, 6, 11 and 12 are SENT without DATA; 11 has PLACE 0.)")
    static void termsEndsAndVerdictsHaveNoData() {
        FarCacheLine x = Play.forgeable();
        answers("12", x, Play.frameOf(9, 1, 0, Play.digest(4)), new int[] {4, 9, 12, 0, 25});
        answers("a byte", x, Play.frame(9, 7, 0, 4));
        answers("11 for a write", x, Play.frame(9, 8, 1), new int[] {4, 9, 11, 0, 24});
        answers("8", x, Play.frameOf(9, 2, 1, Play.digest(4)), new int[] {4, 9, 8, 1, 22});
        note(x, 50);
        answers("11 for a tell", x, Play.frame(9, 6, 0), new int[] {4, 9, 11, 0, 24});
        answers("6", x, Play.frameOf(9, 3, 0, 50), new int[] {4, 9, 6, 0, 19});
    }

    @Says("A FRAME of KIND 0 to 5 that has not just eight bytes of DATA,")
    static void termsANumberHasJust8Bytes() {
        FarCacheLine x = Play.forgeable();
        note(x, 50);
        for (int size : new int[] {0, 7, 9, 40}) {
            x.busy(9);
            for (int kind = 0; kind <= 5; kind++) {
                answers(size + " bytes, kind " + kind, x, Play.frame(9, kind, 0, new int[size]));
            }
            Due.is("no request", x.count(8), 9);
            answers("no partial", x, Play.frame(9, 8, 0));
        }
        x.busy(0);
        answers("the note stayed, and no digest came", x, Play.frame(9, 6, 1), AGAIN);
        answers("the note stayed, and no digest came", x, Play.frame(9, 6, 0), DONE);
        answers("with its action", x, Play.frameOf(9, 3, 0, 50), Play.frame(9, 6, 0));
    }

    @Says("or of a KIND that isn't told here, is nothing;")
    static void termsOtherKindsAreNothingToTheServer() {
        FarCacheLine x = Play.forgeable();
        partial(x, Play.digest(5), 5);
        note(x, 50);
        x.busy(9);
        for (int kind : new int[] {9, 10, 11, 12, 13, 14, 128, 255}) {
            answers("kind " + kind, x, Play.frameOf(9, kind, 1, 0));
            answers("kind " + kind, x, Play.frame(9, kind, 0, 1));
            answers("kind " + kind, x, Play.frame(9, kind, 0));
        }
        Due.is("busy as before", x.count(8), 9);
        Due.is("nothing breaks", x.count(6), 0);
        x.busy(0);
        answers("the partial stayed", x, Play.frame(9, 8, 1), DONE);
        answers("the note stayed", x, Play.frame(9, 6, 0), DONE);
    }

    @Says("DATA of 6 and 8 don't count.")
    static void termsDataOfEndsDoesNotCountForTheServer() {
        FarCacheLine x = Play.forgeable();
        for (int size : new int[] {1, 8, 40}) {
            partial(x, Play.digest(size, 5), size, 5);
            answers("8", x, Play.frame(9, 8, 2, new int[size]), DONE);
            note(x, size);
            answers("6", x, Play.frame(9, 6, 0, new int[size]), DONE);
        }
        Due.is("blobs", x.count(4), 3);
        Due.is("results", x.count(5), 3);
    }
}
