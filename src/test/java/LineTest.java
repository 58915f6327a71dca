import java.util.Arrays;

/** The line itself: frames byte by byte, room, breaks, and bytes that aren't what was sent. */
public final class LineTest {
    private LineTest() {
    }

    public static void main(String[] args) {
        opensEachKind();
        sendsInPieces();
        refusesWithoutRoom();
        refusesAnswersWithoutRoom();
        roomCountsWhatHasNotArrived();
        breaksByLength();
        breaksBySum();
        breakTakesBothWays();
        gathersByTheLengthThatArrived();
        framesAreToldApartAsSent();
        numbersOfThirtyAreNothing();
        movesInsideAFullWay();
        Due.close();
    }

    private static void opensEachKind() {
        FarCacheLine x = new FarCacheLine(8);
        int write = Play.write(x, 5, 6, 7);
        long digest = Play.digest(5, 6, 7);
        int find = x.call(Play.FIND, 0);
        x.name(find, write, 0);
        x.name(find, write, 0xFF00000000000000L);
        int read = Play.read(x, write);
        int bare = x.call(Play.READ, 0);
        int ask = x.call(Play.ASK, Long.MIN_VALUE);
        int tell = Play.tell(x, 258, write, write);
        for (int call = 0; call <= tell; call++) {
            x.begin(call, 9);
        }
        Play.due("opened", x, 0,
                Play.frameOf(write, 1, 0, digest),
                Play.frameOf(find, 0, 0, digest),
                Play.frameOf(find, 0, 1, digest ^ 0xFF00000000000000L),
                Play.frameOf(read, 2, 0, digest),
                Play.frameOf(bare, 2, 0, 0),
                Play.frameOf(ask, 3, 0, Long.MIN_VALUE),
                Play.frameOf(tell, 4, 0, 258),
                Play.frameOf(tell, 5, 0, digest),
                Play.frameOf(tell, 5, 1, digest),
                Play.frame(tell, 6, 2));
        Due.is("frames", x.count(2), 10);
    }

    private static void sendsInPieces() {
        int[] row = Play.bytes(60, 3);
        FarCacheLine x = new FarCacheLine(25);
        int write = Play.write(x, row);
        x.begin(write, 9);
        x.carry(0, 13);
        x.carry(1, 5);
        int[][] pieces = {
            Play.frame(write, 7, 0, Arrays.copyOfRange(row, 0, 25)),
            Play.frame(write, 7, 25, Arrays.copyOfRange(row, 25, 50)),
            Play.frame(write, 7, 50, Arrays.copyOfRange(row, 50, 60)),
            Play.frame(write, 8, 60)};
        Play.due("a write in pieces", x, 0, pieces);
        Play.settle(x);
        int read = Play.read(x, write);
        x.begin(read, 9);
        x.carry(0, 13);
        for (int[] piece : pieces) {
            piece[1] = read;
            piece[piece.length - 1] = (piece[piece.length - 1] + read - write) & 255;
        }
        Play.due("a read in pieces", x, 1, pieces);
        Play.settle(x);
        for (int i = 0; i < 60; i++) {
            Due.is("byte " + i, x.got(read, i), row[i]);
        }

        FarCacheLine y = new FarCacheLine(30);
        y.begin(Play.write(y, row), 9);
        y.carry(0, 13);
        y.carry(1, 5);
        Due.is("two whole pieces and the end", y.count(2), 3);
        FarCacheLine z = new FarCacheLine(8);
        int empty = z.call(Play.WRITE, 0);
        z.begin(empty, 9);
        z.carry(0, 13);
        z.carry(1, 5);
        Play.due("no bytes: only the end", z, 0, Play.frame(empty, 8, 0));
        Play.settle(z);
        Due.is("an empty blob", z.count(4), 1);
        int bare = z.call(Play.READ, 0);
        Play.run(z, bare);
        Due.is("is what a read without a digest reads", z.end(bare), 1);
    }

    private static void refusesWithoutRoom() {
        FarCacheLine x = new FarCacheLine(8);
        int ask = x.call(Play.ASK, 1);
        x.begin(ask, 9);
        for (int i = 0; i < 152; i++) {
            x.resume(ask);
        }
        Due.is("bytes", x.count(0), 153 * 13);
        int tell = x.call(Play.TELL, 2);
        x.begin(tell, 9);
        Due.is("the first frame of the tell has no room, the last one has", x.count(0), 153 * 13 + 5);
        Due.is("one without room", x.count(7), 1);
        x.resume(tell);
        Due.is("again", x.count(0), 153 * 13 + 10);
        Due.is("two without room", x.count(7), 2);
        x.resume(tell);
        Due.is("none has room", x.count(0), 153 * 13 + 10);
        Due.is("four without room", x.count(7), 4);
        Due.is("all arrive", x.carry(0, 5000), 1999);
        Due.is("and nothing breaks", x.count(6), 0);

        FarCacheLine y = new FarCacheLine(8);
        int full = y.call(Play.TELL, 2);
        y.begin(full, 9);
        y.lose(0, 0);
        for (int i = 0; i < 399; i++) {
            y.twice(0, i);
        }
        Due.is("just 2000 bytes have room", y.count(0), 2000);
        Due.is("in 400 frames", y.count(2), 400);
        Due.is("all of them", y.count(7), 0);
        y.twice(0, 399);
        Due.is("no more", y.count(7), 1);
        y.carry(0, 4);
        y.twice(0, 0);
        Due.is("1996 and 5 are too many", y.count(7), 2);
        y.carry(0, 1);
        y.twice(0, 0);
        Due.is("1995 and 5 aren't", y.count(0), 2000);
        Due.is("all arrive", y.carry(0, 5000), 2000);
    }

    private static void refusesAnswersWithoutRoom() {
        FarCacheLine x = new FarCacheLine(8);
        int ask = x.call(Play.ASK, 1);
        x.begin(ask, 9);
        x.carry(0, 13);
        for (int i = 0; i < 332; i++) {
            x.twice(1, i);
        }
        Due.is("bytes", x.count(1), 333 * 6);
        x.resume(ask);
        x.carry(0, 13);
        Due.is("no room for an answer", x.count(7), 1);
        Due.is("it is nowhere", x.count(1), 333 * 6);
        int write = Play.write(x, 1);
        x.carry(1, 3);
        x.begin(write, 9);
        x.carry(0, 13);
        Due.is("room for a shorter one", x.count(7), 1);
        Due.is("just as many as may be", x.count(1), 2000);
        Due.is("all arrive", x.carry(1, 5000), 2000);
        Due.is("nothing breaks", x.count(6), 0);
        Due.is("the last one too", x.count(0), 6 + 5);
    }

    private static void roomCountsWhatHasNotArrived() {
        FarCacheLine x = new FarCacheLine(8);
        int ask = x.call(Play.ASK, 1);
        x.begin(ask, 9);
        for (int i = 0; i < 152; i++) {
            x.resume(ask);
        }
        x.carry(0, 1);
        x.resume(ask);
        Due.is("1988 and 13 are too many", x.count(7), 1);
        x.carry(0, 1);
        x.resume(ask);
        Due.is("1987 and 13 aren't", x.count(7), 1);
        Due.is("2000", x.count(0), 2000);
        Due.is("all arrive", x.carry(0, 5000), 2000);
        Due.is("nothing breaks", x.count(6), 0);
        Due.is("154 answers", x.count(3), 154);
    }

    private static void breaksByLength() {
        int[][] lengths = {{8, 13}, {40, 45}, {20, 25}};
        for (int[] most : lengths) {
            for (int length : new int[] {0, 3, most[1], 255}) {
                FarCacheLine x = askBegun(most[0]);
                Play.forge(x, 0, 0, length);
                Due.is("a length of " + length + " breaks at once", x.carry(0, 100), 1);
                Due.is("once", x.count(6), 1);
                Due.is("nothing is underway", x.count(0), 0);
            }
            for (int length : new int[] {4, most[1] - 1}) {
                FarCacheLine x = askBegun(most[0]);
                Play.forge(x, 0, 0, length);
                Due.is("a length of " + length + " doesn't", x.carry(0, 2), 2);
                Due.is("not yet", x.count(6), 0);
            }
        }
    }

    private static FarCacheLine askBegun(int piece) {
        FarCacheLine x = new FarCacheLine(piece);
        int ask = x.call(Play.ASK, 0x0807060504030201L);
        x.begin(ask, 9);
        return x;
    }

    private static void breaksBySum() {
        for (int k = 1; k < 13; k++) {
            FarCacheLine x = askBegun(8);
            x.lie(0, k, 32);
            Due.is("byte " + k + " is changed: the sum isn't so", x.carry(0, 100), 13);
            Due.is("it breaks", x.count(6), 1);
            Due.is("no answer", x.count(1), 0);
            Due.is("the call goes on", x.end(0), 0);
            x.resume(0);
            Play.settle(x);
            Due.is("and may be opened again", x.end(0), -2);
        }
        FarCacheLine y = askBegun(8);
        y.lie(0, 4, 8);
        y.lie(0, 5, 7 ^ 15);
        Due.is("two changes that the sum doesn't tell", y.carry(0, 100), 13);
        Due.is("break nothing", y.count(6), 0);
    }

    private static void breakTakesBothWays() {
        FarCacheLine x = new FarCacheLine(8);
        int write = Play.write(x, Play.bytes(30, 1));
        int find = x.call(Play.FIND, 0);
        x.name(find, write, 0);
        x.begin(write, 99);
        x.carry(0, 13);
        x.begin(find, 99);
        x.resume(write);
        x.carry(0, 13);
        x.carry(1, 8);
        Due.is("from the client", x.count(0), 13 + 13 * 3 + 11 + 5);
        Due.is("from the server", x.count(1), 3);
        x.lie(0, 0, 255);
        Due.is("breaks", x.carry(0, 1), 1);
        Due.is("gone from the client", x.count(0), 0);
        Due.is("gone from the server", x.count(1), 0);
        Due.is("the partial stays", x.about(write, 3), 0);
        x.resume(find);
        x.carry(0, 13);
        Due.is("what was gathered at the client is gone too", x.carry(1, 6), 6);
        Due.is("so the answer is whole", x.end(find), 1);
        x.resume(write);
        x.carry(0, 13);
        x.resume(write);
        x.carry(0, 7);
        x.lie(1, 4, 1);
        Due.is("a break at the client", x.carry(1, 100), 5);
        Due.is("takes what the server gathered", x.count(0), 0);
        x.resume(write);
        Play.settle(x);
        Due.is("done", x.end(write), 1);
        Due.is("two breaks", x.count(6), 2);
    }

    private static void gathersByTheLengthThatArrived() {
        FarCacheLine x = new FarCacheLine(8);
        int ask = x.call(Play.ASK, 0);
        x.begin(ask, 9);
        Play.forge(x, 0, 0, Play.frame(0, 9, 0));
        Play.forge(x, 0, 5, Play.frame(0, 9, 0, 1, 2, 3));
        Due.is("one frame that has become two", x.carry(0, 100), 13);
        Due.is("breaks nothing", x.count(6), 0);
        Due.is("and is nothing", x.count(1), 0);
        x.resume(ask);
        Play.forge(x, 0, 0, Play.frame(0, 9, 0, 1, 2, 3));
        Play.forge(x, 0, 8, 12, 0, 3, 0, 0);
        Due.is("its rest is gathered", x.carry(0, 100), 13);
        x.resume(ask);
        Play.forge(x, 0, 0, 0, 0, 0, 0, 0, 0, 0, 15);
        Play.forge(x, 0, 8, Play.frame(0, 9, 0));
        Due.is("till the next one makes it whole", x.carry(0, 8), 8);
        Play.due("which is answered", x, 1, Play.frame(0, 13, 0, 2));
        Due.is("and the rest is whole too", x.carry(0, 100), 5);
        Due.is("nothing broke", x.count(6), 0);
    }

    private static void framesAreToldApartAsSent() {
        FarCacheLine x = new FarCacheLine(8);
        int ask = x.call(Play.ASK, 0);
        x.begin(ask, 9);
        x.resume(ask);
        Play.forge(x, 0, 0, 4);
        Due.is("two frames still", x.count(2), 2);
        x.carry(0, 4);
        Due.is("one is whole", x.count(2), 1);
        Due.yes("it may be lost", x.lose(0, 0));
        Due.is("the rest of the other one stays", x.count(0), 9);
        x.twice(0, 0);
        Due.is("and can't come once more", x.count(0), 9);
    }

    private static void numbersOfThirtyAreNothing() {
        for (int number : new int[] {29, 30, 31, 255}) {
            FarCacheLine x = Play.forgeable();
            Play.arrive(x, 0, Play.frameOf(number, 0, 3, 1));
            if (number < 30) {
                Play.due("number 29 is answered", x, 1, Play.frame(29, 10, 3, 0));
            } else {
                Due.is("number " + number + " is nothing", x.count(1), 0);
            }
            x.cut(0, 0);
            Play.arrive(x, 1, Play.frame(number, 11, 0));
            Due.is("nothing breaks", x.count(6), 0);
            Due.is("nothing ends", x.end(0), 0);
        }
    }

    /** Frames are lost and doubled where the bytes underway must be moved to make room. */
    private static void movesInsideAFullWay() {
        FarCacheLine x = new FarCacheLine(8);
        int ask = x.call(Play.ASK, 1);
        x.begin(ask, 9);
        for (int i = 0; i < 149; i++) {
            x.resume(ask);
        }
        int tell = x.call(Play.TELL, 2);
        x.begin(tell, 9);
        x.carry(0, 1000);
        Due.is("frames of which nothing has arrived", x.count(2), 73 + 2);
        for (int i = 0; i < 70; i++) {
            Due.yes("the tell's first frame comes once more", x.twice(0, 73));
        }
        Due.yes("an ask is lost", x.lose(0, 72));
        Due.is("bytes", x.count(0), 1 + 72 * 13 + 71 * 13 + 5);
        Due.is("the last frame is the tell's last one", x.underway(0, 1 + 143 * 13 + 2), 6);
        Due.is("the one ahead of it its first one", x.underway(0, 1 + 142 * 13 + 2), 4);
        Due.is("the first one of them", x.underway(0, 1 + 72 * 13 + 2), 4);
        Due.is("behind the last ask", x.underway(0, 1 + 71 * 13 + 2), 3);
        Due.is("all arrive", x.carry(0, 5000), 1 + 143 * 13 + 5);
        Due.is("nothing breaks", x.count(6), 0);
        Due.is("answers", x.count(3), 149 + 1);
        x.carry(1, 5000);
        Due.is("done", x.end(tell), 1);
    }
}
