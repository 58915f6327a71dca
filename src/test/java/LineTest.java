import java.math.BigInteger;
import java.util.Arrays;

/** The document's Terms, from BYTES to numbers of 30 or more: frames byte by byte, room, breaks. */
public final class LineTest {
    private static final int[] PIECES = {8, 9, 25, 39, 40};

    private LineTest() {
    }

    public static void main(String[] args) {
        Suite.run(LineTest.class);
    }

    @Says("BYTES are 0 .. 255.")
    static void termsBytesAreFrom0To255() {
        int[] row = {0, 255, 128, 127, 1};
        FarCacheLine x = new FarCacheLine(8);
        int read = Play.read(x, Play.stored(x, row));
        x.begin(read, 9);
        x.carry(0, Play.ALL);
        for (int i = 0; i < row.length; i++) {
            Due.is("underway", x.underway(1, 4 + i), row[i]);
        }
        Play.settle(x);
        for (int i = 0; i < row.length; i++) {
            Due.is("got", x.got(read, i), row[i]);
        }
    }

    @Says("DIGEST of a row of bytes (64 bits): d is how many there are at first;")
    static void termsDigestBeginsWithHowManyThereAre() {
        FarCacheLine x = new FarCacheLine(8);
        int write = x.call(Play.WRITE, 0);
        Due.is("of no bytes", x.named(write, 0), 0);
        x.data(write, 7);
        Due.is("of 7: (1 xor 7) times the factor", x.named(write, 0), 6597069769266L);
        Due.is("of 1: (1 xor 1) times the factor", x.named(Play.write(x, 1), 0), 0);
        Due.is("of 0: the factor", x.named(Play.write(x, 0), 0), 0x100000001B3L);
        Due.is("of 2, 0: its count and first byte cancel out", x.named(Play.write(x, 2, 0), 0), 0);
    }

    @Says("for each byte: d = (d xor it) * 0x100000001B3 (modulo 2 to the 64).")
    static void termsDigestWrapsAroundAt2ToThe64() {
        for (int size : new int[] {1, 2, 3, 8, 59, 60}) {
            int[] row = new int[size];
            Arrays.fill(row, 255);
            FarCacheLine x = new FarCacheLine(8);
            Due.is("of " + size + " bytes", x.named(Play.write(x, row), 0), wideDigest(row));
        }
    }

    private static long wideDigest(int[] row) {
        BigInteger d = BigInteger.valueOf(row.length);
        for (int b : row) {
            d = d.xor(BigInteger.valueOf(b)).multiply(BigInteger.valueOf(0x100000001B3L));
            d = d.mod(BigInteger.ONE.shiftLeft(64));
        }
        return d.longValue();
    }

    @Says("Two ENDS, 0 the CLIENT, 1 the SERVER, have a WAY each to the other one,")
    static void termsEachEndHasAWay() {
        FarCacheLine x = new FarCacheLine(8);
        int write = Play.write(x, 5);
        x.begin(write, 9);
        Due.is("the client's", x.count(0), 13);
        Due.is("not the server's", x.count(1), 0);
        x.carry(0, 13);
        Due.is("what has arrived isn't underway", x.count(0), 0);
        Due.is("the server's", x.count(1), 5);
    }

    @Says("on which FRAMES are UNDERWAY, one behind the other; the first one may have arrived in part.")
    static void termsFramesAreOneBehindTheOther() {
        FarCacheLine x = new FarCacheLine(8);
        x.begin(x.call(Play.TELL, 9), 9);
        Play.due("both", x, 0, Play.frameOf(0, 4, 0, 9), Play.frame(0, 6, 0));
        Due.is("two of which nothing has arrived", x.count(2), 2);
        x.carry(0, 1);
        Due.is("one of which nothing has arrived", x.count(2), 1);
        Due.is("the rest of the first one is ahead", x.underway(0, 0), 0);
        Due.is("the other one is behind it", x.underway(0, 12), 4);
        x.carry(0, 12);
        Due.is("the first one is whole", x.count(2), 1);
        x.carry(0, 4);
        Due.is("the last one has arrived in part", x.count(2), 0);
        Due.is("its sum is underway", x.count(0), 1);
    }

    @Says("A FRAME, in bytes: a LENGTH (how many follow it: 4 and those of its DATA), a CALL's number, a KIND, a PLACE,")
    static void termsFramesHaveLengthNumberKindAndPlace() {
        FarCacheLine x = new FarCacheLine(8);
        for (int i = 0; i < 29; i++) {
            x.call(Play.FIND, 0);
        }
        int write = Play.write(x, 10, 20, 30, 40, 50, 60, 70, 80, 90);
        x.begin(write, 9);
        x.carry(0, 13);
        x.carry(1, 5);
        int[] due = {12, 29, 7, 0, 10, 20, 30, 40, 50, 60, 70, 80, 152, 5, 29, 7, 8, 90, 139, 4, 29, 8, 9, 50};
        for (int k = 0; k < due.length; k++) {
            Due.is("byte " + k, x.underway(0, k), due[k]);
        }
        Due.is("no more", x.count(0), due.length);
    }

    @Says("DATA (at most PIECE bytes),")
    static void termsDataIsAtMostAPiece() {
        for (int piece : PIECES) {
            FarCacheLine x = new FarCacheLine(piece);
            int read = Play.read(x, Play.stored(x, Play.bytes(60, 1)));
            x.begin(read, 9);
            x.carry(0, 13);
            Due.is("a whole piece", x.underway(1, 0), 4 + piece);
            Due.is("the next one is behind it", x.underway(1, 5 + piece + 3), piece);
        }
    }

    @Says("a SUM (of all bytes of the FRAME ahead of it, modulo 256).")
    static void termsSumWrapsAroundAt256() {
        int[][] sums = {{0, 15}, {0xF0, 255}, {0xF1, 0}, {0xF2, 1}, {0xFF, 14}};
        for (int[] sum : sums) {
            FarCacheLine x = new FarCacheLine(8);
            x.begin(x.call(Play.ASK, sum[0]), 9);
            Due.is("the sum of 12, 0, 3, 0 and " + sum[0], x.underway(0, 12), sum[1]);
            x.carry(0, 13);
            Due.is("it is taken for so", x.count(6), 0);
        }
        FarCacheLine y = new FarCacheLine(8);
        y.begin(y.call(Play.ASK, -1), 9);
        Due.is("12, 3 and eight times 255: more than 256 often", y.underway(0, 12), 7);
        Due.is("it is taken for so", y.carry(0, 13) + y.count(6), 13);
    }

    @Says("Numbers of 64 bits are eight bytes of DATA, the highest first.")
    static void termsNumbersHaveTheHighestByteFirst() {
        FarCacheLine x = new FarCacheLine(8);
        x.begin(x.call(Play.ASK, 0x0102030405060708L), 9);
        x.begin(x.call(Play.ASK, Long.MIN_VALUE), 9);
        x.begin(x.call(Play.ASK, -2), 9);
        Play.due("the actions", x, 0,
                Play.frame(0, 3, 0, 1, 2, 3, 4, 5, 6, 7, 8),
                Play.frame(1, 3, 0, 128, 0, 0, 0, 0, 0, 0, 0),
                Play.frame(2, 3, 0, 255, 255, 255, 255, 255, 255, 255, 254));
    }

    @Says("One that is SENT is put behind those UNDERWAY,")
    static void termsSentFramesComeBehindThoseUnderway() {
        FarCacheLine x = new FarCacheLine(8);
        x.begin(x.call(Play.ASK, 1), 9);
        x.carry(0, 3);
        x.begin(x.call(Play.ASK, 2), 9);
        x.resume(0);
        Due.is("bytes", x.count(0), 10 + 13 + 13);
        Due.is("behind the rest of the first one", x.underway(0, 10 + 1), 1);
        Due.is("and the last one behind both", x.underway(0, 23 + 1), 0);
    }

    /** A write of so many bytes sends its pieces behind 1989 bytes from the client. */
    private static FarCacheLine piecesBehind1989Bytes(int size) {
        FarCacheLine x = new FarCacheLine(8);
        x.begin(Play.write(x, Play.bytes(size, 1)), 9);
        x.carry(0, 13);
        Play.flood(x, 153);
        x.carry(1, 5);
        return x;
    }

    @Says("unless there would be more than 2000 bytes UNDERWAY on this WAY then")
    static void termsThereIsRoomForJust2000Bytes() {
        FarCacheLine x = piecesBehind1989Bytes(1);
        Due.is("1989 and 6 and 5", x.count(0), 2000);
        Due.is("all had room", x.count(7), 0);
        Due.is("all arrive", x.carry(0, Play.HIGH), 2000);
        Due.is("whole", x.count(6), 0);
    }

    @Says("unless there would be more than 2000 bytes UNDERWAY on this WAY then")
    static void termsThereIsNoRoomFor2001Bytes() {
        FarCacheLine x = piecesBehind1989Bytes(2);
        Due.is("1989 and 7, but not 5 more", x.count(0), 1996);
        Due.is("one had no room", x.count(7), 1);
    }

    @Says("unless there would be more than 2000 bytes UNDERWAY on this WAY then")
    static void termsThereIsRoomFor400OfTheShortestFrames() {
        FarCacheLine x = new FarCacheLine(8);
        x.begin(x.call(Play.TELL, 2), 9);
        x.lose(0, 0);
        for (int i = 0; i < 399; i++) {
            x.twice(0, i);
        }
        Due.is("just 2000 bytes", x.count(0), 2000);
        Due.is("in 400 frames", x.count(2), 400);
        x.resume(0);
        Due.is("no room for either frame of a tell", x.count(7), 2);
        x.carry(0, 4);
        x.resume(0);
        Due.is("1996 and 5 are too many", x.count(7), 4);
        x.carry(0, 1);
        x.resume(0);
        Due.is("1995 and 5 aren't", x.count(7), 5);
        Due.is("just 2000 bytes again", x.count(0), 2000);
        Due.is("in 400 frames", x.count(2), 400);
        Due.is("all arrive", x.carry(0, Play.HIGH), 2000);
    }

    @Says("unless there would be more than 2000 bytes UNDERWAY on this WAY then")
    static void termsTheOtherWayTakesNoRoom() {
        FarCacheLine x = new FarCacheLine(8);
        int ask = Play.flood(x, 153);
        x.carry(0, Play.ALL);
        Due.is("from the server", x.count(1), 153 * 6);
        for (int i = 0; i < 153; i++) {
            x.resume(ask);
        }
        Due.is("from the client", x.count(0), 153 * 13);
        Due.is("all had room", x.count(7), 0);
    }

    @Says("(of the first FRAME those that have not arrived):")
    static void termsBytesThatHaveArrivedTakeNoRoom() {
        FarCacheLine x = new FarCacheLine(8);
        int ask = Play.flood(x, 153);
        x.carry(0, 1);
        x.resume(ask);
        Due.is("1988 and 13 are too many", x.count(0), 1988);
        Due.is("no room", x.count(7), 1);
        x.carry(0, 1);
        x.resume(ask);
        Due.is("1987 and 13 aren't", x.count(0), 2000);
        Due.is("room", x.count(7), 1);
        Due.is("all arrive", x.carry(0, Play.HIGH), 2000);
        Due.is("whole", x.count(6), 0);
        Due.is("each is answered", x.count(3), 154);
    }

    @Says("it is nowhere, and counts as one without room.")
    static void termsAFrameWithoutRoomIsNowhere() {
        FarCacheLine x = new FarCacheLine(8);
        int ask = Play.flood(x, 153);
        x.resume(ask);
        Due.is("it counts", x.count(7), 1);
        Due.is("no bytes of it are underway", x.count(0), 1989);
        Due.is("nor is its frame", x.count(2), 153);
        int tell = x.call(Play.TELL, 2);
        x.begin(tell, 9);
        Due.is("of a tell the first frame has no room, the shorter one has", x.count(0), 1989 + 5);
        Due.is("one more counts", x.count(7), 2);
        Due.is("the shorter one comes", x.underway(0, 1989 + 2), 6);
        x.cut(0, 0);
        Due.is("it isn't sent later", x.carry(0, Play.ALL), 0);
    }

    @Says("it is nowhere, and counts as one without room.")
    static void termsAnAnswerWithoutRoomIsNowhere() {
        FarCacheLine x = new FarCacheLine(8);
        int ask = x.call(Play.ASK, 1);
        x.begin(ask, 9);
        x.carry(0, 13);
        for (int i = 0; i < 332; i++) {
            x.twice(1, i);
        }
        Due.is("bytes from the server", x.count(1), 333 * 6);
        x.resume(ask);
        x.carry(0, 13);
        Due.is("no room for an answer", x.count(7), 1);
        Due.is("it is nowhere", x.count(1), 333 * 6);
        x.carry(1, 3);
        x.begin(Play.write(x, 1), 9);
        x.carry(0, 13);
        Due.is("room for a shorter one, which makes 2000", x.count(1), 2000);
        Due.is("no more without room", x.count(7), 1);
        Due.is("all arrive", x.carry(1, Play.HIGH), 2000);
    }

    @Says("CARRYING n bytes from an END: one after the other they arrive at the other END, where they are GATHERED;")
    static void termsCarriedBytesAreGathered() {
        FarCacheLine x = new FarCacheLine(8);
        x.begin(x.call(Play.ASK, 1), 9);
        for (int i = 0; i < 13; i++) {
            Due.is("no answer yet", x.count(1), 0);
            Due.is("one byte", x.carry(0, 1), 1);
            Due.is("bytes left", x.count(0), 12 - i);
        }
        Due.is("the answer", x.count(1), 6);
        for (int i = 0; i < 6; i++) {
            Due.is("it goes on", x.end(0), 0);
            x.carry(1, 1);
        }
        Due.is("the answer is gathered", x.end(0), -2);
    }

    @Says("as soon as a FRAME is whole there (by the LENGTH that arrived), this END ACTS on it;")
    static void termsAnEndActsAsSoonAsAFrameIsWhole() {
        FarCacheLine x = new FarCacheLine(8);
        x.begin(x.call(Play.ASK, 1), 9);
        x.begin(x.call(Play.ASK, 2), 9);
        x.carry(0, 12);
        Due.is("not whole", x.count(1), 0);
        x.carry(0, 1);
        Due.is("whole", x.count(1), 6);
        x.carry(0, 12);
        Due.is("the second one isn't whole", x.count(1), 6);
        x.carry(0, 1);
        Due.is("whole", x.count(1), 12);
    }

    @Says("as soon as a FRAME is whole there (by the LENGTH that arrived), this END ACTS on it;")
    static void termsAShorterLengthMakesAFrameWholeEarlier() {
        FarCacheLine x = new FarCacheLine(8);
        int ask = x.call(Play.ASK, 0);
        x.begin(ask, 9);
        Play.forge(x, 0, 0, Play.frame(0, 9, 0));
        Play.forge(x, 0, 5, Play.frame(0, 9, 0, 1, 2, 3));
        Due.is("one frame that has become two", x.carry(0, Play.ALL), 13);
        Due.is("breaks nothing", x.count(6), 0);
        int write = Play.write(x, 1);
        x.begin(write, 9);
        x.cut(0, 0);
        x.resume(ask);
        x.carry(0, 13);
        Play.forge(x, 1, 0, Play.frame(write, 12, 0));
        Due.is("five of an answer's six bytes", x.carry(1, 5), 5);
        Due.is("are whole for the client", x.count(0), 6 + 5);
    }

    @Says("as soon as a FRAME is whole there (by the LENGTH that arrived), this END ACTS on it;")
    static void termsALongerLengthMakesAFrameWholeLater() {
        FarCacheLine x = new FarCacheLine(8);
        int ask = x.call(Play.ASK, 0);
        x.begin(ask, 9);
        Play.forge(x, 0, 0, Play.frame(0, 9, 0, 1, 2, 3));
        Play.forge(x, 0, 8, 12, 0, 3, 0, 0);
        Due.is("its rest is gathered", x.carry(0, Play.ALL), 13);
        x.resume(ask);
        Play.forge(x, 0, 0, 0, 0, 0, 0, 0, 0, 0, 15);
        Play.forge(x, 0, 8, Play.frame(0, 9, 0));
        Due.is("till the next one makes it whole", x.carry(0, 7), 7);
        Due.is("not yet", x.count(1), 0);
        Due.is("till the next one makes it whole", x.carry(0, 1), 1);
        Play.due("it is answered", x, 1, Play.frame(0, 13, 0, 2));
        Due.is("and the rest is whole too", x.carry(0, Play.ALL), 5);
        Due.is("nothing broke", x.count(6), 0);
    }

    @Says("those UNDERWAY are told apart as they were SENT, whatever their bytes have become.")
    static void termsFramesAreToldApartAsTheyWereSent() {
        FarCacheLine x = new FarCacheLine(8);
        x.begin(x.call(Play.ASK, 0), 9);
        x.resume(0);
        x.resume(0);
        Play.forge(x, 0, 0, Play.frame(0, 9, 0));
        Play.forge(x, 0, 13, 4);
        Due.is("three frames still", x.count(2), 3);
        Due.is("five bytes are whole there", x.carry(0, 5), 5);
        Due.is("but the first one has arrived in part", x.count(2), 2);
        Due.yes("the next one is lost", x.lose(0, 0));
        Due.is("whole, as it was sent", x.count(0), 8 + 13);
        Due.is("the third one is behind the first one's rest", x.underway(0, 8), 12);
        Due.yes("it comes once more", x.twice(0, 0));
        Due.is("whole, as it was sent", x.count(0), 8 + 13 + 13);
    }

    /** Whether a frame whose length is this one breaks the line, by its length or by its sum. */
    private static boolean breaks(int piece, int end, int length) {
        FarCacheLine x = new FarCacheLine(piece);
        x.begin(x.call(Play.ASK, 0), 9);
        if (end == 1) {
            x.carry(0, 13);
        }
        Play.forge(x, end, 0, length);
        Due.is("the length arrives", x.carry(end, 1), 1);
        return x.count(6) == 1;
    }

    @Says("A LENGTH below 4")
    static void termsALengthBelow4BreaksTheLine() {
        for (int piece : PIECES) {
            for (int end = 0; end <= 1; end++) {
                for (int length : new int[] {0, 1, 3}) {
                    Due.yes("a length of " + length, breaks(piece, end, length));
                }
                Due.no("a length of 4", breaks(piece, end, 4));
            }
        }
    }

    @Says("or above 4 + PIECE")
    static void termsALengthAboveAPieceBreaksTheLine() {
        for (int piece : PIECES) {
            for (int end = 0; end <= 1; end++) {
                for (int length : new int[] {5 + piece, 128, 255}) {
                    Due.yes("a length of " + length + ", piece " + piece, breaks(piece, end, length));
                }
                Due.no("a length of " + (4 + piece), breaks(piece, end, 4 + piece));
            }
        }
    }

    @Says("(as soon as it arrives),")
    static void termsALengthBreaksTheLineAsSoonAsItArrives() {
        for (int length : new int[] {3, 13}) {
            FarCacheLine x = new FarCacheLine(8);
            x.begin(x.call(Play.ASK, 0), 9);
            x.begin(x.call(Play.ASK, 0), 9);
            Play.forge(x, 0, 13, length);
            Due.is("the frame ahead is whole, then one byte", x.carry(0, Play.ALL), 14);
            Due.is("breaks the line", x.count(6), 1);
        }
    }

    @Says("or a SUM that isn't so,")
    static void termsAWrongSumBreaksTheLine() {
        for (int k = 1; k < 13; k++) {
            FarCacheLine x = new FarCacheLine(8);
            x.begin(x.call(Play.ASK, 0x0807060504030201L), 9);
            x.lie(0, k, 32);
            Due.is("byte " + k + " is changed", x.carry(0, Play.ALL), 13);
            Due.is("it breaks", x.count(6), 1);
            Due.is("the server doesn't act", x.count(1), 0);
        }
        FarCacheLine y = new FarCacheLine(8);
        y.begin(y.call(Play.ASK, 0), 9);
        y.carry(0, 13);
        y.lie(1, 4, 1);
        Due.is("from the server", y.carry(1, Play.ALL), 6);
        Due.is("it breaks", y.count(6), 1);
        Due.is("the client doesn't act", y.end(0), 0);
    }

    @Says("or a SUM that isn't so,")
    static void termsASumThatIsSoBreaksNothing() {
        FarCacheLine x = new FarCacheLine(8);
        x.begin(x.call(Play.ASK, 0x0807060504030201L), 9);
        x.lie(0, 4, 8);
        x.lie(0, 5, 7 ^ 15);
        Due.is("two changes that the sum doesn't tell", x.carry(0, Play.ALL), 13);
        Due.is("break nothing", x.count(6), 0);
        Due.is("it is answered", x.count(1), 6);
        FarCacheLine y = new FarCacheLine(8);
        y.begin(y.call(Play.ASK, 255), 9);
        y.lie(0, 11, 255);
        y.lie(0, 12, 14 ^ 15);
        Due.is("the sum is changed too", y.carry(0, Play.ALL), 13);
        Due.is("breaks nothing", y.count(6), 0);
    }

    /** A write whose piece and more are underway both ways, with bytes gathered at both ends. */
    private static FarCacheLine fullOfBytes() {
        FarCacheLine x = new FarCacheLine(8);
        int write = Play.write(x, Play.bytes(30, 1));
        x.begin(write, 99);
        x.carry(0, 13);
        x.resume(write);
        x.carry(0, 13);
        x.resume(write);
        x.carry(0, 5);
        x.carry(1, 2);
        Due.is("from the client", x.count(0), 8);
        Due.is("from the server", x.count(1), 8);
        return x;
    }

    /** Nothing is left: a new frame each way is whole just when its own bytes have arrived. */
    private static void isEmpty(String what, FarCacheLine x) {
        Due.is(what + ": from the client", x.count(0) + x.count(2), 0);
        Due.is(what + ": from the server", x.count(1) + x.count(3), 0);
        x.resume(0);
        x.carry(0, 12);
        Due.is(what + ": nothing was gathered at the server", x.count(1), 0);
        x.carry(0, 1);
        Due.is(what + ": nothing was gathered at the server", x.count(1), 5);
        x.carry(1, 4);
        Due.is(what + ": nothing was gathered at the client", x.count(0), 0);
        x.carry(1, 1);
        Due.is(what + ": nothing was gathered at the client", x.count(0), 3 * 13 + 11 + 5);
    }

    @Says("BREAKS the LINE: all that is UNDERWAY or GATHERED, both ways, is gone")
    static void termsABreakAtTheServerTakesBothWays() {
        FarCacheLine x = fullOfBytes();
        x.lie(0, 7, 1);
        Due.is("by its sum", x.carry(0, Play.ALL), 8);
        Due.is("a break", x.count(6), 1);
        isEmpty("at the server", x);
    }

    @Says("BREAKS the LINE: all that is UNDERWAY or GATHERED, both ways, is gone")
    static void termsABreakAtTheClientTakesBothWays() {
        FarCacheLine x = fullOfBytes();
        x.lie(1, 2, 1);
        Due.is("by its sum", x.carry(1, Play.ALL), 3);
        Due.is("a break", x.count(6), 1);
        isEmpty("at the client", x);
    }

    @Says("(calls, BLOBS and all else stay).")
    static void termsABreakLeavesAllElse() {
        FarCacheLine x = new FarCacheLine(8);
        int stored = Play.stored(x, 1, 2, 3);
        Play.run(x, Play.tell(x, 7, stored));
        int write = Play.write(x, Play.bytes(20, 1));
        x.begin(write, 1000);
        x.carry(0, 13);
        x.carry(1, 5);
        x.carry(0, 13);
        x.cut(0, 0);
        int tell = Play.tell(x, 8, stored);
        x.begin(tell, 1000);
        x.lose(0, 2);
        x.carry(0, Play.ALL);
        int read = Play.read(x, stored);
        x.busy(2);
        x.begin(read, 1000);
        Play.settle(x);
        int ask = Play.flood(x, 155);
        x.cut(0, 0);
        x.begin(x.call(Play.ASK, 3), 1000);
        x.lie(0, 0, 255);
        String calls = Play.lookAtCalls(x);
        x.carry(0, 1);
        Due.is("a break", x.count(6), 1);
        Due.is("blobs", x.count(4), 1);
        Due.is("results", x.count(5), 1);
        Due.is("without room", x.count(7), 2);
        Due.is("busy", x.count(8), 1);
        Due.yes("calls and partials", Play.lookAtCalls(x).equals(calls));
        Due.is("a partial", x.about(write, 3), 8);
        Due.is("it waits", x.about(read, 0), 1);
        Due.is("the ask goes on", x.end(ask), 0);
        x.busy(0);
        Due.is("the clock and the deadlines", x.tick(999), 0);
        Play.settle(x);
        Due.is("it tried again", x.end(read), 1);
        Due.is("the deadlines", x.tick(1), 3);
    }

    @Says("(calls, BLOBS and all else stay).")
    static void termsABreakLeavesNotes() {
        FarCacheLine x = Play.forgeable();
        Play.arrive(x, 0, Play.frameOf(9, 4, 0, 50));
        Play.arrive(x, 0, Play.frameOf(9, 5, 0, 1));
        x.resume(0);
        x.lie(0, 0, 255);
        x.carry(0, 1);
        Due.is("a break", x.count(6), 1);
        Play.arrive(x, 0, Play.frame(9, 6, 1));
        Play.due("the note is there with its digest", x, 1, Play.frame(9, 11, 0));
        Due.is("a result", x.count(5), 1);
    }

    @Says("A FRAME with a number of 30 or more is nothing.")
    static void termsAFrameWithANumberOf30IsNothing() {
        FarCacheLine x = Play.forgeable();
        for (int number : new int[] {30, 31, 128, 255}) {
            for (int kind = 0; kind <= 5; kind++) {
                Play.arrive(x, 0, Play.frameOf(number, kind, 0, 0));
                Due.is("number " + number + " to the server", x.count(1), 0);
            }
            Play.arrive(x, 1, Play.frame(number, 11, 0));
            Play.arrive(x, 1, Play.frame(number, 13, 0, 2));
            Due.is("number " + number + " to the client", x.end(0), 0);
        }
        Due.is("nothing breaks", x.count(6), 0);
        Play.arrive(x, 0, Play.frameOf(29, 0, 3, 1));
        Play.due("29 is answered, though there is no such call", x, 1, Play.frame(29, 10, 3, 0));
    }
}
