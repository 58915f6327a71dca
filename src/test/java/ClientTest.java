import java.util.Arrays;

/** The document's Terms of CALLS: what they are told, how they are opened, how the CLIENT acts, waits and the clock. */
public final class ClientTest {
    private static final int[] KINDS = {Play.FIND, Play.WRITE, Play.READ, Play.ASK, Play.TELL};

    /** Each kind of frame that the client acts on, for some call of number 1. */
    private static final int[][] FRAMES_FOR_CALL_1 = {
        Play.frame(1, 10, 0, 1), Play.frame(1, 11, 0), Play.frame(1, 12, 0), Play.frame(1, 13, 0, 1),
        Play.frame(1, 13, 0, 2), Play.frame(1, 7, 0, 1), Play.frame(1, 8, 0), Play.frame(1, 8, 1),
        Play.frameOf(1, 5, 0, 1), Play.frame(1, 6, 0), Play.frame(1, 6, 1)};

    private ClientTest() {
    }

    public static void main(String[] args) {
        Suite.run(ClientTest.class);
    }

    /** A new call that names these writes and goes on, with nothing underway. */
    private static int begun(FarCacheLine x, int kind, int... writes) {
        int call = x.call(kind, 5);
        for (int write : writes) {
            x.name(call, write, 0);
        }
        x.begin(call, 100000);
        x.cut(0, 0);
        return call;
    }

    /** A new call of a kind; of one that names digests, it names that of the spare write. */
    private static int begunOf(FarCacheLine x, int kind) {
        return kind == Play.WRITE || kind == Play.ASK ? begun(x, kind) : begun(x, kind, 0);
    }

    /** A frame arrives from the server, and nothing that can be seen changes by it. */
    private static void isNothing(String what, FarCacheLine x, int[] frame) {
        String before = Play.look(x);
        Play.arrive(x, 1, frame);
        Due.same(what, x, before);
    }

    @Says("CALLS, at most 30, numbered from 0, are of a KIND: 0 FIND, 1 WRITE, 2 READ, 3 ASK, 4 TELL.")
    static void termsCallsAreNumberedFrom0UpTo29() {
        FarCacheLine x = new FarCacheLine(8);
        for (int i = 0; i < 30; i++) {
            Due.is("a number", x.call(i % 5, 0), i);
        }
        Due.is("the 31st", x.call(0, 0), -1);
        x.begin(29, 9);
        Due.is("the 30th is begun with its number", x.underway(0, 1), 29);
    }

    @Says("CALLS, at most 30, numbered from 0, are of a KIND: 0 FIND, 1 WRITE, 2 READ, 3 ASK, 4 TELL.")
    static void termsEachKindIsOpenedAsItself() {
        FarCacheLine x = new FarCacheLine(8);
        int write = Play.write(x, 1, 2);
        for (int kind : KINDS) {
            int call = x.call(kind, 0);
            x.name(call, write, 0);
            x.begin(call, 9);
            Due.is("the first frame's kind is the call's", x.underway(0, 2), kind);
            x.cut(0, 0);
        }
    }

    @Says("One is BEGUN with a DEADLINE, and GOES ON from then on till it has ended:")
    static void termsACallGoesOnFromItsBeginToItsEnd() {
        FarCacheLine x = new FarCacheLine(8);
        int ask = x.call(Play.ASK, 1);
        Due.is("not yet", x.resume(ask), -1);
        x.begin(ask, 9);
        Due.is("it goes on", x.resume(ask), 0);
        x.tick(8);
        Due.is("it goes on", x.resume(ask), 0);
        x.tick(1);
        Due.is("it ended", x.resume(ask), -1);
    }

    @Says("1 DONE, - 1 TOO LATE, - 2 NOT THERE, - 3 DIFFERS, - 4 NO ROOM, - 5 GAVE UP.")
    static void termsACallEndsInSixWays() {
        FarCacheLine x = Play.forgeable();
        int done = begun(x, Play.WRITE);
        Play.arrive(x, 1, Play.frame(done, 11, 0));
        Due.is("done", x.end(done), 1);
        int late = x.call(Play.ASK, 0);
        x.begin(late, 1);
        x.cut(0, 0);
        x.tick(1);
        Due.is("too late", x.end(late), -1);
        for (int reason = 2; reason <= 4; reason++) {
            int call = begun(x, Play.ASK);
            Play.arrive(x, 1, Play.frame(call, 13, 0, reason));
            Due.is("not there, differs, no room", x.end(call), -reason);
        }
        int again = begun(x, Play.ASK);
        for (int i = 0; i < 5; i++) {
            Due.is("not yet", x.end(again), 0);
            Play.arrive(x, 1, Play.frame(again, 13, 0, 1));
        }
        Due.is("gave up", x.end(again), -5);
    }

    @Says("Before it is BEGUN, a WRITE is told its bytes (at most 60);")
    static void termsAWriteIsToldAtMost60Bytes() {
        FarCacheLine x = new FarCacheLine(40);
        int write = Play.write(x, Play.bytes(60, 1));
        Due.is("no more", x.data(write, 1), -1);
        x.begin(write, 9);
        x.carry(0, 13);
        x.carry(1, 5);
        Due.is("60 are sent", x.count(0), 45 + 25 + 5);
        int begun = Play.write(x, 1);
        x.begin(begun, 9);
        Due.is("not after that", x.data(begun, 1), -1);
    }

    @Says("others are told DIGESTS that they NAME: FIND at most 4, READ one, TELL at most 3:")
    static void termsCallsNameSoManyDigests() {
        int[] most = {4, 1, 1, 0, 3};
        for (int kind : KINDS) {
            if (kind != Play.WRITE) {
                FarCacheLine x = new FarCacheLine(8);
                int write = Play.write(x, 9);
                int call = x.call(kind, 0);
                for (int i = 1; i <= most[kind]; i++) {
                    Due.is("kind " + kind + " names " + i, x.name(call, write, i), i);
                }
                Due.is("kind " + kind + " names no more", x.name(call, write, 9), -1);
                for (int i = 0; i <= most[kind]; i++) {
                    Due.is("digest " + i, x.named(call, i), i < most[kind] ? Play.digest(9) ^ (i + 1) : 0);
                }
            }
        }
    }

    @Says("the DIGEST of what a WRITE has been told by then, xor a number.")
    static void termsADigestIsOfWhatAWriteHasBeenToldByThen() {
        FarCacheLine x = new FarCacheLine(8);
        int write = x.call(Play.WRITE, 0);
        x.name(write, write, 99);
        int find = x.call(Play.FIND, 0);
        x.name(find, write, 0);
        x.data(write, 5);
        x.name(find, write, -1);
        x.data(write, 6);
        x.name(find, write, Long.MIN_VALUE);
        Due.is("of no bytes", x.named(find, 0), 0);
        Due.is("of one, xor - 1", x.named(find, 1), ~Play.digest(5));
        Due.is("of two, the highest bit changed", x.named(find, 2), Play.digest(5, 6) ^ Long.MIN_VALUE);
    }

    @Says("ASK and TELL have an ACTION.")
    static void termsAskAndTellHaveAnAction() {
        for (long action : new long[] {0, 1, -1, Long.MIN_VALUE, Long.MAX_VALUE}) {
            FarCacheLine x = new FarCacheLine(8);
            x.begin(x.call(Play.ASK, action), 9);
            x.begin(x.call(Play.TELL, action), 9);
            Play.due("the action", x, 0, Play.frameOf(0, 3, 0, action), Play.frameOf(1, 4, 0, action),
                    Play.frame(1, 6, 0));
        }
    }

    @Says("A WRITE NAMES the DIGEST of its bytes xor a number (0 at first).")
    static void termsAWriteNamesItsDigestXorANumber() {
        FarCacheLine x = new FarCacheLine(8);
        int plain = Play.write(x, 5, 6);
        int write = Play.write(x, 5, 6);
        x.name(write, write, 0xFF);
        x.begin(plain, 9);
        x.begin(write, 9);
        Play.due("opened", x, 0, Play.frameOf(plain, 1, 0, Play.digest(5, 6)),
                Play.frameOf(write, 1, 0, Play.digest(5, 6) ^ 0xFF));
        Play.settle(x);
        Due.is("0 at first: done", x.end(plain), 1);
        Due.is("another number: differs", x.end(write), -3);
    }

    @Says({"To OPEN a CALL, the CLIENT SENDS, with its number: FIND: for each DIGEST that it NAMES",
        "KIND 0, PLACE which one it is (from 0), the DIGEST."})
    static void termsAFindSendsEachDigest() {
        FarCacheLine x = new FarCacheLine(8);
        int write = Play.write(x, 5);
        int find = x.call(Play.FIND, 0);
        for (int i = 0; i < 4; i++) {
            x.name(find, write, i);
        }
        x.begin(find, 9);
        long digest = Play.digest(5);
        Play.due("all four", x, 0, Play.frameOf(find, 0, 0, digest), Play.frameOf(find, 0, 1, digest ^ 1),
                Play.frameOf(find, 0, 2, digest ^ 2), Play.frameOf(find, 0, 3, digest ^ 3));
    }

    @Says("and that was not answered:")
    static void termsAFindSendsOnlyWhatWasNotAnswered() {
        FarCacheLine x = Play.forgeable();
        int find = begun(x, Play.FIND, 0, 0, 0, 0);
        Play.arrive(x, 1, Play.frame(find, 10, 0, 1));
        Play.arrive(x, 1, Play.frame(find, 10, 2, 0));
        x.resume(find);
        long digest = x.named(0, 0);
        Play.due("the other two", x, 0, Play.frameOf(find, 0, 1, digest), Play.frameOf(find, 0, 3, digest));
        x.cut(0, 0);
        Play.arrive(x, 1, Play.frame(find, 10, 3, 0));
        x.resume(find);
        Play.due("the last one", x, 0, Play.frameOf(find, 0, 1, digest));
    }

    @Says("WRITE: KIND 1, PLACE 0, the DIGEST.")
    static void termsAWriteSendsItsDigest() {
        FarCacheLine x = new FarCacheLine(8);
        int write = Play.write(x, Play.bytes(20, 1));
        x.begin(write, 9);
        long digest = Play.digest(Play.bytes(20, 1));
        Play.due("at first", x, 0, Play.frameOf(write, 1, 0, digest));
        x.carry(0, 13);
        x.carry(1, 5);
        x.cut(13, 0);
        x.resume(write);
        Play.due("place 0 also when bytes are there", x, 0, Play.frameOf(write, 1, 0, digest));
    }

    @Says("READ: KIND 2, PLACE how many bytes have come, the DIGEST")
    static void termsAReadSendsHowManyBytesHaveCome() {
        FarCacheLine x = Play.forgeable();
        int read = begun(x, Play.READ, 0);
        int[] sizes = {1, 39, 20};
        int come = 0;
        for (int size : sizes) {
            x.resume(read);
            Play.due("so many", x, 0, Play.frameOf(read, 2, come, x.named(0, 0)));
            x.cut(0, 0);
            Play.arrive(x, 1, Play.frame(read, 7, come, new int[size]));
            come += size;
        }
        x.resume(read);
        Play.due("all 60", x, 0, Play.frameOf(read, 2, 60, x.named(0, 0)));
    }

    @Says("(without one: 0).")
    static void termsAReadWithoutADigestSends0() {
        FarCacheLine x = new FarCacheLine(8);
        x.begin(x.call(Play.READ, 7), 9);
        Play.due("0", x, 0, Play.frameOf(0, 2, 0, 0));
        x.cut(0, 0);
        Play.stored(x);
        x.resume(0);
        Play.settle(x);
        Due.is("that is the digest of no bytes", x.end(0), 1);
    }

    @Says("ASK: what has come is none again; KIND 3, PLACE 0, the ACTION.")
    static void termsAnAskBeginsAnewWhenItIsOpened() {
        FarCacheLine x = Play.forgeable();
        int ask = begun(x, Play.ASK);
        Play.arrive(x, 1, Play.frameOf(ask, 5, 0, 11));
        Play.arrive(x, 1, Play.frameOf(ask, 5, 1, 12));
        Due.is("two have come", x.about(ask, 2), 2);
        x.resume(ask);
        Play.due("opened", x, 0, Play.frameOf(ask, 3, 0, 5));
        x.cut(0, 0);
        Due.is("none has come", x.about(ask, 2), 0);
        Due.is("none has come", x.named(ask, 0), 0);
        Play.arrive(x, 1, Play.frameOf(ask, 5, 0, 13));
        Due.is("the first one comes anew", x.named(ask, 0), 13);
        Due.is("and no second one", x.named(ask, 1), 0);
    }

    @Says("TELL: KIND 4, PLACE 0, the ACTION; for each DIGEST KIND 5, PLACE which one, the DIGEST; KIND 6, PLACE how many.")
    static void termsATellSendsItsActionAndDigests() {
        FarCacheLine x = new FarCacheLine(8);
        int write = Play.write(x, 5);
        long digest = Play.digest(5);
        int full = x.call(Play.TELL, 258);
        for (int i = 0; i < 3; i++) {
            x.name(full, write, i);
        }
        x.begin(full, 9);
        Play.due("three digests", x, 0, Play.frameOf(full, 4, 0, 258), Play.frameOf(full, 5, 0, digest),
                Play.frameOf(full, 5, 1, digest ^ 1), Play.frameOf(full, 5, 2, digest ^ 2), Play.frame(full, 6, 3));
        x.cut(0, 0);
        int empty = x.call(Play.TELL, -1);
        x.begin(empty, 9);
        Play.due("none", x, 0, Play.frameOf(empty, 4, 0, -1), Play.frame(empty, 6, 0));
    }

    @Says("It is OPENED when it is BEGUN, when it is RESUMED, and when it tries again.")
    static void termsACallIsOpenedThreeWays() {
        for (int kind : KINDS) {
            FarCacheLine x = Play.forgeable();
            int call = x.call(kind, 5);
            x.name(call, 0, 0);
            x.begin(call, 9);
            String frames = Play.bytesFrom(x, 0);
            Due.yes("begun: with frames", x.count(0) >= 13);
            x.cut(0, 0);
            x.resume(call);
            Due.yes("resumed: with the same frames", Play.bytesFrom(x, 0).equals(frames));
            x.cut(0, 0);
            Play.arrive(x, 1, Play.frame(call, 13, 0, 1));
            x.tick(1);
            Due.yes("tried again: with the same frames", Play.bytesFrom(x, 0).equals(frames));
        }
    }

    @Says("(A FIND without DIGESTS is DONE at once.)")
    static void termsAFindWithoutDigestsIsDoneAtOnce() {
        FarCacheLine x = new FarCacheLine(8);
        int find = x.call(Play.FIND, 0);
        Due.is("not before it is begun", x.end(find), 0);
        Due.yes("begun", x.begin(find, 1));
        Due.is("done", x.end(find), 1);
        Due.is("nothing is sent", x.count(0), 0);
        Due.is("it is not too late", x.tick(5), 0);
        Due.is("done", x.end(find), 1);
        int read = x.call(Play.READ, 0);
        x.begin(read, 1);
        Due.is("a read without one isn't", x.end(read), 0);
        int tell = x.call(Play.TELL, 0);
        x.begin(tell, 1);
        Due.is("nor is a tell", x.end(tell), 0);
    }

    @Says("The CLIENT ACTS, if the CALL is there")
    static void termsAFrameForNoCallIsNothing() {
        FarCacheLine x = Play.forgeable();
        for (int number : new int[] {1, 2, 29}) {
            isNothing("11", x, Play.frame(number, 11, 0));
            isNothing("12", x, Play.frame(number, 12, 0));
            isNothing("13", x, Play.frame(number, 13, 0, 1));
            isNothing("7", x, Play.frame(number, 7, 0, 1));
        }
        int write = Play.write(x, 5);
        x.begin(write, 9);
        Due.is("the call that comes later isn't done", x.end(write), 0);
        Due.is("and has no tries", x.about(write, 1), 0);
    }

    @Says("and GOES ON (else it is nothing):")
    static void termsAFrameForACallThatWasNotBegunIsNothing() {
        for (int kind : KINDS) {
            FarCacheLine x = Play.forgeable();
            x.name(x.call(kind, 5), 0, 0);
            for (int[] frame : FRAMES_FOR_CALL_1) {
                isNothing("frame of kind " + frame[2] + " for a call of kind " + kind, x, frame);
            }
            Due.yes("it can be begun", x.begin(1, 1));
        }
    }

    @Says("and GOES ON (else it is nothing):")
    static void termsAFrameForACallThatEndedIsNothing() {
        for (int kind : KINDS) {
            FarCacheLine x = Play.forgeable();
            int call = x.call(kind, 5);
            x.name(call, 0, 0);
            x.begin(call, 1);
            x.cut(0, 0);
            x.tick(1);
            for (int[] frame : FRAMES_FOR_CALL_1) {
                isNothing("frame of kind " + frame[2] + " for a call of kind " + kind, x, frame);
            }
            Due.is("too late still", x.end(call), -1);
        }
    }

    @Says("10, FIND, PLACE of a DIGEST that it NAMES,")
    static void termsAnAnswerHasThePlaceOfADigest() {
        FarCacheLine x = Play.forgeable();
        int find = begun(x, Play.FIND, 0, 0, 0);
        for (int place : new int[] {3, 4, 30, 255}) {
            isNothing("place " + place, x, Play.frame(find, 10, place, 0));
        }
        Play.arrive(x, 1, Play.frame(find, 10, 2, 0));
        Due.is("one is answered", x.about(find, 2), 1);
        Due.is("the last one", x.missing(find, 0), 2);
    }

    @Says("not answered: it is answered")
    static void termsADigestIsAnsweredOnce() {
        FarCacheLine x = Play.forgeable();
        int find = begun(x, Play.FIND, 0, 0);
        Play.arrive(x, 1, Play.frame(find, 10, 1, 0));
        Due.is("answered", x.about(find, 2), 1);
        isNothing("the same answer", x, Play.frame(find, 10, 1, 0));
        isNothing("another answer", x, Play.frame(find, 10, 1, 1));
        Due.is("it goes on", x.end(find), 0);
    }

    @Says("(there is a BLOB if the byte isn't 0);")
    static void termsAnyByteBut0SaysThatThereIsABlob() {
        FarCacheLine x = Play.forgeable();
        int find = begun(x, Play.FIND, 0, 0, 0, 0);
        int[] bytes = {1, 255, 0, 128};
        for (int place = 0; place < 4; place++) {
            Play.arrive(x, 1, Play.frame(find, 10, place, bytes[place]));
        }
        Due.is("only 0 says that there is none", x.missing(find, 0), 2);
        Due.is("only 0 says that there is none", x.missing(find, 1), -1);
    }

    @Says("when all are: DONE.")
    static void termsAFindIsDoneWhenAllAreAnswered() {
        for (int digests = 1; digests <= 4; digests++) {
            FarCacheLine x = Play.forgeable();
            int find = begun(x, Play.FIND, new int[digests]);
            for (int place = digests - 1; place >= 0; place--) {
                Due.is("it goes on", x.end(find), 0);
                Play.arrive(x, 1, Play.frame(find, 10, place, place % 2));
            }
            Due.is("done", x.end(find), 1);
        }
    }

    @Says("11, WRITE or TELL: DONE.")
    static void termsKind11EndsWritesAndTellsAlone() {
        FarCacheLine x = Play.forgeable();
        for (int kind : KINDS) {
            int call = begunOf(x, kind);
            Play.arrive(x, 1, Play.frame(call, 11, 33));
            Due.is("a call of kind " + kind, x.end(call), kind == Play.WRITE || kind == Play.TELL ? 1 : 0);
        }
    }

    @Says("12, WRITE: its bytes from PLACE on IN PIECES")
    static void termsAWriteGoesOnAtThePlace() {
        FarCacheLine x = Play.forgeable();
        int[] row = Play.bytes(45, 2);
        int write = Play.write(x, row);
        x.begin(write, 99);
        x.cut(0, 0);
        Play.arrive(x, 1, Play.frame(write, 12, 3));
        Play.due("from 3 on", x, 0, Play.frame(write, 7, 3, Arrays.copyOfRange(row, 3, 43)),
                Play.frame(write, 7, 43, row[43], row[44]), Play.frame(write, 8, 45));
        x.cut(0, 0);
        Play.arrive(x, 1, Play.frame(write, 12, 44));
        Play.due("from 44 on", x, 0, Play.frame(write, 7, 44, row[44]), Play.frame(write, 8, 45));
        x.cut(0, 0);
        Play.arrive(x, 1, Play.frame(write, 12, 45));
        Play.due("from just its end on", x, 0, Play.frame(write, 8, 45));
    }

    @Says("(nothing if PLACE is above how many it has).")
    static void termsAPlaceAboveAWritesBytesIsNothing() {
        FarCacheLine x = Play.forgeable();
        int empty = begun(x, Play.WRITE);
        isNothing("above none", x, Play.frame(empty, 12, 1));
        for (int place : new int[] {61, 62, 255}) {
            isNothing("above 60", x, Play.frame(0, 12, place));
        }
        Play.arrive(x, 1, Play.frame(0, 12, 60));
        Play.due("60 isn't above", x, 0, Play.frame(0, 8, 60));
        x.cut(0, 0);
        Play.arrive(x, 1, Play.frame(empty, 12, 0));
        Play.due("nor is 0", x, 0, Play.frame(empty, 8, 0));
    }

    @Says("7, READ: if PLACE is just how many have come,")
    static void termsAPieceComesToAReadAtJustItsEnd() {
        FarCacheLine x = Play.forgeable();
        int read = begun(x, Play.READ, 0);
        isNothing("a later place", x, Play.frame(read, 7, 1, 5));
        Play.arrive(x, 1, Play.frame(read, 7, 0, 5, 6, 7));
        Due.is("they come", x.about(read, 2), 3);
        for (int place : new int[] {0, 2, 4, 255}) {
            isNothing("another place", x, Play.frame(read, 7, place, 8));
        }
        Play.arrive(x, 1, Play.frame(read, 7, 3, 8));
        Due.is("it comes", x.about(read, 2), 4);
        int[] row = {5, 6, 7, 8};
        for (int i = 0; i < 4; i++) {
            Due.is("byte " + i, x.got(read, i), row[i]);
        }
    }

    @Says("and there would be at most 60, they come behind. 8, READ:")
    static void termsAtMost60BytesComeToARead() {
        FarCacheLine x = Play.forgeable();
        int read = begun(x, Play.READ, 0);
        isNothing("no bytes", x, Play.frame(read, 7, 0));
        Play.arrive(x, 1, Play.frame(read, 7, 0, new int[25]));
        isNothing("61 in all", x, Play.frame(read, 7, 25, new int[36]));
        int[] more = new int[35];
        more[34] = 250;
        Play.arrive(x, 1, Play.frame(read, 7, 25, more));
        Due.is("60 in all", x.about(read, 2), 60);
        Due.is("the last one", x.got(read, 59), 250);
        isNothing("one more", x, Play.frame(read, 7, 60, 1));
        isNothing("none more", x, Play.frame(read, 7, 60));
    }

    @Says("if PLACE is how many have come: DONE, if their DIGEST is the one that it NAMES")
    static void termsAReadIsDoneWithItsDigest() {
        FarCacheLine x = Play.forgeable();
        int read = begun(x, Play.READ, Play.write(x, 5, 6));
        Play.arrive(x, 1, Play.frame(read, 7, 0, 5, 6));
        Due.is("not before it ends", x.end(read), 0);
        Play.arrive(x, 1, Play.frame(read, 8, 2));
        Due.is("done", x.end(read), 1);
        int full = begun(x, Play.READ, 0);
        int[] row = Play.bytes(60, 99);
        Play.arrive(x, 1, Play.frame(full, 7, 0, Arrays.copyOfRange(row, 0, 40)));
        Play.arrive(x, 1, Play.frame(full, 7, 40, Arrays.copyOfRange(row, 40, 60)));
        Play.arrive(x, 1, Play.frame(full, 8, 60));
        Due.is("of 60 bytes", x.end(full), 1);
        int empty = begun(x, Play.READ, Play.write(x));
        Play.arrive(x, 1, Play.frame(empty, 8, 0));
        Due.is("of none", x.end(empty), 1);
    }

    @Says("(0 without one),")
    static void termsAReadWithoutADigestIsDoneWith0() {
        FarCacheLine x = Play.forgeable();
        int none = begun(x, Play.READ);
        Play.arrive(x, 1, Play.frame(none, 8, 0));
        Due.is("0 is the digest of no bytes", x.end(none), 1);
        int one = begun(x, Play.READ);
        Play.arrive(x, 1, Play.frame(one, 7, 0, 1));
        Play.arrive(x, 1, Play.frame(one, 8, 1));
        Due.is("and that of a byte 1", x.end(one), 1);
        int two = begun(x, Play.READ);
        Play.arrive(x, 1, Play.frame(two, 7, 0, 2));
        Play.arrive(x, 1, Play.frame(two, 8, 1));
        Due.is("but not that of a byte 2", x.end(two), -3);
    }

    @Says("else it ends: DIFFERS;")
    static void termsAReadOfOtherBytesDiffers() {
        FarCacheLine x = Play.forgeable();
        int write = Play.write(x, 5, 6);
        int[][] rows = {{}, {5}, {5, 7}, {6, 5}, {5, 6, 0}};
        for (int[] row : rows) {
            int read = begun(x, Play.READ, write);
            Play.arrive(x, 1, Play.frame(read, 7, 0, row));
            Play.arrive(x, 1, Play.frame(read, 8, row.length));
            Due.is("differs", x.end(read), -3);
            Due.is("its bytes stay", x.about(read, 2), row.length);
        }
    }

    @Says("another PLACE: it WAITS. 5, ASK:")
    static void termsAReadThatEndsAtAnotherPlaceWaits() {
        for (int place : new int[] {0, 1, 3, 255}) {
            FarCacheLine x = Play.forgeable();
            int read = begun(x, Play.READ, Play.write(x, 5, 6));
            Play.arrive(x, 1, Play.frame(read, 7, 0, 5, 6));
            Play.arrive(x, 1, Play.frame(read, 8, place));
            Due.is("it goes on", x.end(read), 0);
            Due.is("it waits", x.about(read, 0), 1);
            Due.is("a try", x.about(read, 1), 1);
            Due.is("its bytes stay", x.about(read, 2), 2);
        }
    }

    @Says("if PLACE is just how many DIGESTS have come,")
    static void termsADigestComesToAnAskAtJustItsEnd() {
        FarCacheLine x = Play.forgeable();
        int ask = begun(x, Play.ASK);
        isNothing("a later place", x, Play.frameOf(ask, 5, 1, 11));
        Play.arrive(x, 1, Play.frameOf(ask, 5, 0, Long.MIN_VALUE));
        Due.is("it has come", x.named(ask, 0), Long.MIN_VALUE);
        for (int place : new int[] {0, 2, 255}) {
            isNothing("another place", x, Play.frameOf(ask, 5, place, 11));
        }
        Play.arrive(x, 1, Play.frameOf(ask, 5, 1, -1));
        Due.is("it has come", x.named(ask, 1), -1);
        Due.is("two", x.about(ask, 2), 2);
    }

    @Says("fewer than 3: one more. 6, ASK:")
    static void termsAtMost3DigestsComeToAnAsk() {
        FarCacheLine x = Play.forgeable();
        int ask = begun(x, Play.ASK);
        for (int i = 0; i < 3; i++) {
            Play.arrive(x, 1, Play.frameOf(ask, 5, i, 7 + i));
            Due.is("have come", x.about(ask, 2), i + 1);
        }
        isNothing("a fourth one", x, Play.frameOf(ask, 5, 3, 11));
        Play.arrive(x, 1, Play.frame(ask, 6, 3));
        Due.is("done with three", x.end(ask), 1);
        Due.is("the third one stays", x.named(ask, 2), 9);
    }

    @Says("PLACE is how many have come: DONE; else it WAITS.")
    static void termsAnAskEndsWithHowManyHaveCome() {
        for (int place : new int[] {0, 1, 2, 3, 255}) {
            FarCacheLine x = Play.forgeable();
            int ask = begun(x, Play.ASK);
            Play.arrive(x, 1, Play.frameOf(ask, 5, 0, 7));
            Play.arrive(x, 1, Play.frame(ask, 6, place));
            Due.is("end at " + place, x.end(ask), place == 1 ? 1 : 0);
            Due.is("waits", x.about(ask, 0), place == 1 ? 0 : 1);
            Due.is("what has come stays for now", x.about(ask, 2), 1);
        }
        FarCacheLine y = Play.forgeable();
        int none = begun(y, Play.ASK);
        Play.arrive(y, 1, Play.frame(none, 6, 0));
        Due.is("none is enough", y.end(none), 1);
    }

    @Says("13: reason 1: it WAITS;")
    static void termsReason1LetsEachKindWait() {
        for (int kind : KINDS) {
            FarCacheLine x = Play.forgeable();
            int call = begunOf(x, kind);
            Play.arrive(x, 1, Play.frame(call, 13, 66, 1));
            Due.is("it goes on", x.end(call), 0);
            Due.is("it waits", x.about(call, 0), 1);
            Due.is("a try", x.about(call, 1), 1);
        }
    }

    @Says("2 to 4: it ends with - reason.")
    static void termsReasons2To4EndEachKind() {
        for (int kind : KINDS) {
            for (int reason = 2; reason <= 4; reason++) {
                FarCacheLine x = Play.forgeable();
                int call = begunOf(x, kind);
                Play.arrive(x, 1, Play.frame(call, 13, 66, reason));
                Due.is("kind " + kind, x.end(call), -reason);
                Due.is("no try", x.about(call, 1), 0);
            }
        }
    }

    @Says("(10 and 13 that have not just one byte of DATA,")
    static void termsAnswersAndErrorsHaveJustOneByte() {
        for (int kind : KINDS) {
            FarCacheLine x = Play.forgeable();
            int call = begunOf(x, kind);
            for (int size : new int[] {0, 2, 8, 40}) {
                int[] data = new int[size];
                for (int reason = 0; reason <= 4; reason++) {
                    Arrays.fill(data, reason);
                    isNothing(size + " bytes of 13", x, Play.frame(call, 13, 0, data));
                    isNothing(size + " bytes of 10", x, Play.frame(call, 10, 0, data));
                }
            }
            Due.is("it goes on", x.end(call), 0);
        }
    }

    @Says("5 not just eight,")
    static void termsADigestHasJust8Bytes() {
        FarCacheLine x = Play.forgeable();
        int ask = begun(x, Play.ASK);
        for (int size : new int[] {0, 1, 7, 9, 40}) {
            isNothing(size + " bytes", x, Play.frame(ask, 5, 0, new int[size]));
        }
        Play.arrive(x, 1, Play.frame(ask, 5, 0, new int[8]));
        Due.is("eight bytes", x.about(ask, 2), 1);
    }

    @Says("other KINDS and reasons are nothing;")
    static void termsOtherKindsAreNothingToTheClient() {
        int[][] taken = {{10, 13}, {11, 12, 13}, {7, 8, 13}, {5, 6, 13}, {11, 13}};
        for (int kind : KINDS) {
            FarCacheLine x = Play.forgeable();
            int call = begunOf(x, kind);
            for (int frameKind = 0; frameKind < 256; frameKind += frameKind < 16 ? 1 : 48) {
                int wanted = frameKind;
                if (Arrays.stream(taken[kind]).noneMatch(k -> k == wanted)) {
                    String what = "a call of kind " + kind + ", a frame of kind " + frameKind;
                    isNothing(what, x, Play.frame(call, frameKind, 0));
                    isNothing(what, x, Play.frame(call, frameKind, 3, 1));
                    isNothing(what, x, Play.frameOf(call, frameKind, 0, 1));
                }
            }
        }
    }

    @Says("other KINDS and reasons are nothing;")
    static void termsOtherReasonsAreNothing() {
        for (int kind : KINDS) {
            FarCacheLine x = Play.forgeable();
            int call = begunOf(x, kind);
            for (int reason : new int[] {0, 5, 6, 128, 252, 255}) {
                isNothing("reason " + reason, x, Play.frame(call, 13, 0, reason));
            }
        }
    }

    @Says("DATA of 6, 8, 11, 12 don't count.)")
    static void termsDataOfEndsDoesNotCountForTheClient() {
        for (int size : new int[] {1, 8, 40}) {
            int[] data = Play.bytes(size, 5);
            FarCacheLine x = Play.forgeable();
            int ask = begun(x, Play.ASK);
            Play.arrive(x, 1, Play.frame(ask, 6, 0, data));
            Due.is("6", x.end(ask), 1);
            int read = begun(x, Play.READ);
            Play.arrive(x, 1, Play.frame(read, 8, 0, data));
            Due.is("8", x.end(read), 1);
            int tell = begun(x, Play.TELL);
            Play.arrive(x, 1, Play.frame(tell, 11, 0, data));
            Due.is("11", x.end(tell), 1);
            int write = begun(x, Play.WRITE);
            Play.arrive(x, 1, Play.frame(write, 12, 0, data));
            Play.due("12", x, 0, Play.frame(write, 8, 0));
        }
    }

    @Says("To WAIT: its TRIES (0 at first) are one more;")
    static void termsEachWaitIsATry() {
        FarCacheLine x = Play.forgeable();
        int ask = begun(x, Play.ASK);
        Due.is("0 at first", x.about(ask, 1), 0);
        for (int tries = 1; tries <= 4; tries++) {
            Play.arrive(x, 1, Play.frame(ask, 13, 0, 1));
            Due.is("one more", x.about(ask, 1), tries);
            x.tick(8);
            x.cut(0, 0);
            Due.is("they stay when it tries again", x.about(ask, 1), tries);
        }
    }

    @Says("with 5 it ends: GAVE UP;")
    static void termsTheFifthTryEndsACall() {
        for (int kind : KINDS) {
            FarCacheLine x = Play.forgeable();
            int call = begunOf(x, kind);
            for (int tries = 1; tries <= 5; tries++) {
                Due.is("it goes on", x.end(call), 0);
                Play.arrive(x, 1, Play.frame(call, 13, 0, 1));
            }
            Due.is("gave up", x.end(call), -5);
            Due.is("with five tries", x.about(call, 1), 5);
            Due.is("it doesn't wait", x.about(call, 0), 0);
            x.tick(100);
            Due.is("nor is it opened", x.count(0), 0);
        }
    }

    @Says("else it tries again in 1, 2, 4, 8 ticks (by its TRIES).")
    static void termsWaitsGrow() {
        FarCacheLine x = Play.forgeable();
        int ask = begun(x, Play.ASK);
        for (int ticks = 1; ticks <= 8; ticks *= 2) {
            Play.arrive(x, 1, Play.frame(ask, 13, 0, 1));
            Due.is("it waits", x.about(ask, 0), ticks);
            x.tick(ticks - 1);
            Due.is("one tick too early", x.count(0), 0);
            Due.is("one tick is left", x.about(ask, 0), 1);
            x.tick(1);
            Due.is("it tries again", x.count(0), 13);
            Due.is("it doesn't wait", x.about(ask, 0), 0);
            x.cut(0, 0);
        }
    }

    @Says("One that WAITS already WAITS anew, with TRIES one more again.")
    static void termsOneThatWaitsWaitsAnew() {
        FarCacheLine x = Play.forgeable();
        int ask = begun(x, Play.ASK);
        Play.arrive(x, 1, Play.frame(ask, 13, 0, 1));
        Play.arrive(x, 1, Play.frame(ask, 13, 0, 1));
        Due.is("two ticks, not one", x.about(ask, 0), 2);
        Due.is("two tries", x.about(ask, 1), 2);
        x.tick(1);
        Due.is("not opened by the first wait", x.count(0), 0);
        Play.arrive(x, 1, Play.frame(ask, 6, 3));
        Due.is("four ticks from now on", x.about(ask, 0), 4);
        Play.arrive(x, 1, Play.frame(ask, 13, 0, 1));
        Due.is("eight ticks", x.about(ask, 0), 8);
        x.tick(7);
        Due.is("not yet", x.count(0), 0);
        Play.arrive(x, 1, Play.frame(ask, 13, 0, 1));
        Due.is("gave up while it waited", x.end(ask), -5);
    }

    @Says("The CLOCK goes on tick by tick;")
    static void termsTheClockGoesOnTickByTick() {
        FarCacheLine x = Play.forgeable();
        int first = begun(x, Play.ASK);
        int second = begun(x, Play.ASK);
        Play.arrive(x, 1, Play.frame(first, 13, 0, 1));
        Play.arrive(x, 1, Play.frame(first, 13, 0, 1));
        Play.arrive(x, 1, Play.frame(second, 13, 0, 1));
        x.tick(100);
        Due.is("the one whose ticks were gone first", x.underway(0, 1), second);
        Due.is("is ahead of the other one", x.underway(0, 14), first);
        Due.is("each is opened once", x.count(0), 26);
        int late = x.call(Play.ASK, 1);
        x.begin(late, 5);
        x.cut(0, 0);
        Play.arrive(x, 1, Play.frame(late, 13, 0, 1));
        Due.is("too late by ten ticks", x.tick(10), 1);
        Due.is("but it was opened ahead of that", x.count(0), 13);
    }

    @Says("The CLOCK goes on tick by tick;")
    static void termsTheClockGoesOnTickByTickForTheFirstAndTheLastCall() {
        for (int call : new int[] {0, 29}) {
            FarCacheLine x = new FarCacheLine(8);
            for (int i = 0; i < 30; i++) {
                x.call(Play.ASK, 0);
            }
            x.busy(1);
            x.begin(call, 5);
            Play.settle(x);
            Due.is("it waits", x.about(call, 0), 1);
            Due.is("too late by ten ticks", x.tick(10), 1);
            Due.is("but it was opened ahead of that", x.count(0), 13);
        }
    }

    @Says("in each, by numbers, for each CALL that GOES ON:")
    static void termsInATickCallsComeByNumbers() {
        FarCacheLine x = Play.forgeable();
        int tell = begun(x, Play.TELL, 0);
        int ask = begun(x, Play.ASK);
        Play.arrive(x, 1, Play.frame(ask, 13, 0, 1));
        Play.arrive(x, 1, Play.frame(tell, 13, 0, 1));
        x.tick(1);
        Play.due("by numbers, not by which waited first", x, 0, Play.frameOf(tell, 4, 0, 5),
                Play.frameOf(tell, 5, 0, x.named(0, 0)), Play.frame(tell, 6, 1), Play.frameOf(ask, 3, 0, 5));
    }

    @Says("in each, by numbers, for each CALL that GOES ON:")
    static void termsTheClockPassesOverCallsThatDoNotGoOn() {
        FarCacheLine x = Play.forgeable();
        x.call(Play.ASK, 1);
        int done = begun(x, Play.TELL);
        Play.arrive(x, 1, Play.frame(done, 13, 0, 1));
        Play.arrive(x, 1, Play.frame(done, 11, 0));
        for (int i = 0; i < 101; i++) {
            Due.is("only the spare write is too late", x.tick(1000), i == 99 ? 1 : 0);
        }
        Due.is("done still", x.end(done), 1);
        Due.is("not begun still", x.end(1), 0);
        Due.is("nothing is sent", x.count(0), 0);
    }

    @Says("its DEADLINE's ticks are gone: TOO LATE;")
    static void termsACallIsTooLateAtJustItsDeadline() {
        for (int deadline : new int[] {1, 2, 999, 1000}) {
            FarCacheLine x = new FarCacheLine(8);
            x.tick(7);
            int ask = x.call(Play.ASK, 1);
            x.begin(ask, deadline);
            Due.is("one tick ahead", x.tick(deadline - 1), 0);
            Due.is("it goes on", x.end(ask), 0);
            Due.is("just then", x.tick(1), 1);
            Due.is("too late", x.end(ask), -1);
        }
    }

    @Says("else, if it WAITS and its ticks are gone: it doesn't WAIT any more, and is OPENED.")
    static void termsTooLateComesAheadOfTryingAgain() {
        FarCacheLine x = Play.forgeable();
        int both = x.call(Play.ASK, 1);
        x.begin(both, 1);
        int later = x.call(Play.ASK, 1);
        x.begin(later, 2);
        x.cut(0, 0);
        Play.arrive(x, 1, Play.frame(both, 13, 0, 1));
        Play.arrive(x, 1, Play.frame(later, 13, 0, 1));
        Due.is("one is too late", x.tick(1), 1);
        Due.is("that whose both ticks were gone", x.end(both), -1);
        Due.is("it is not opened", x.count(0), 13);
        Due.is("but the other one is", x.underway(0, 1), later);
        Due.is("and doesn't wait", x.about(later, 0), 0);
        x.tick(0);
        Due.is("it is opened once", x.count(0), 13);
    }

    @Says("The constants: `NONE = -1`: None.")
    static void termsNoneIsMinus1() {
        Due.is("NONE", FarCacheLine.NONE, -1);
    }
}
