/** Each promise by its number: ordinary inputs, the edges that the document names, wrong inputs. */
public final class PromisesTest {
    private static final int LOW = Integer.MIN_VALUE;
    private static final int HIGH = Integer.MAX_VALUE;

    private PromisesTest() {
    }

    public static void main(String[] args) {
        promise1();
        promise2();
        promise3();
        promise4();
        promise5();
        promise6();
        promise7();
        promise8();
        promise9();
        promise10();
        promise11();
        promise12();
        promise13();
        promise14();
        promise15();
        promise16();
        promise17();
        promise18();
        promise19();
        promise20();
        promise21();
        Due.close();
    }

    private static void promise1() {
        int[][] pieces = {{LOW, 8}, {-1, 8}, {0, 8}, {7, 8}, {8, 8}, {9, 9}, {39, 39}, {40, 40}, {41, 40}, {HIGH, 40}};
        for (int[] piece : pieces) {
            FarCacheLine x = new FarCacheLine(piece[0]);
            for (int what = 0; what <= 8; what++) {
                Due.is("1: count(" + what + ") of a new one", x.count(what), 0);
            }
            Due.is("1: end(0) of a new one", x.end(0), -9);
            Due.is("1: the clock of a new one is 0", ticks(x, 1000), 1000);
            int write = Play.write(x, Play.bytes(60, 1));
            x.begin(write, 9);
            x.carry(0, 13);
            x.carry(1, 5);
            Due.is("1: the length of a piece, " + piece[0], x.underway(0, 0), 4 + piece[1]);
        }
    }

    /** How often the clock goes on by so much. */
    private static int ticks(FarCacheLine x, int n) {
        int times = 0;
        while (x.tick(n) == 0) {
            times++;
        }
        return times;
    }

    private static void promise2() {
        FarCacheLine x = new FarCacheLine(8);
        for (int kind : new int[] {LOW, -1, 5, 6, HIGH}) {
            Due.is("2: call(" + kind + ")", x.call(kind, 1), -1);
        }
        for (int i = 0; i < 30; i++) {
            Due.is("2: a new call's number", x.call(i % 5, i), i);
        }
        Due.is("2: the 31st call", x.call(0, 0), -1);
        Due.is("2: the 30th is there", x.end(29), 0);
        Due.is("2: the 31st isn't", x.end(30), -9);

        FarCacheLine y = new FarCacheLine(8);
        y.begin(y.call(Play.ASK, 0x0102030405060708L), 5);
        y.begin(y.call(Play.TELL, -2L), 5);
        Play.due("2: actions", y, 0,
                Play.frame(0, 3, 0, 1, 2, 3, 4, 5, 6, 7, 8),
                Play.frame(1, 4, 0, 255, 255, 255, 255, 255, 255, 255, 254),
                Play.frame(1, 6, 0));
    }

    private static void promise3() {
        FarCacheLine x = new FarCacheLine(8);
        for (int kind = 0; kind <= 4; kind++) {
            x.call(kind, 0);
            Due.is("3: data for kind " + kind, x.data(kind, 5), kind == 1 ? 1 : -1);
        }
        Due.is("3: data for no call", x.data(5, 5), -1);
        Due.is("3: data for no call", x.data(-1, 5), -1);
        Due.is("3: data for no call", x.data(LOW, 5), -1);
        Due.is("3: data for no call", x.data(HIGH, 5), -1);
        Due.is("3: data(1, 0x1FF)", x.data(1, 0x1FF), 2);
        Due.is("3: data(1, -2)", x.data(1, -2), 3);
        Due.is("3: the lowest eight bits count", x.named(1, 0), Play.digest(5, 255, 254));
        for (int i = 4; i <= 60; i++) {
            Due.is("3: the byte " + i, x.data(1, i), i);
        }
        Due.is("3: the byte 61", x.data(1, 61), -1);
        Due.is("3: the byte 61 didn't come", x.data(1, 61), -1);

        FarCacheLine y = new FarCacheLine(8);
        int write = Play.write(y, 1);
        y.begin(write, 9);
        Due.is("3: data for one that was begun", y.data(write, 2), -1);
        Due.is("3: nothing came", y.named(write, 0), Play.digest(1));
        y.tick(9);
        Due.is("3: data for one that ended", y.data(write, 2), -1);
    }

    private static void promise4() {
        FarCacheLine x = new FarCacheLine(8);
        int write = Play.write(x, 1, 2);
        int[] most = {4, 1, 1, 0, 3};
        for (int kind = 0; kind <= 4; kind++) {
            int call = kind == 1 ? write : x.call(kind, 7);
            for (int i = 1; i <= most[kind]; i++) {
                Due.is("4: name " + i + " of kind " + kind, x.name(call, write, kind == 1 ? 0 : i), i);
            }
            Due.is("4: one more than may be, kind " + kind, x.name(call, write, 0), kind == 1 ? 1 : -1);
            for (int i = 0; kind != 1 && i < most[kind]; i++) {
                Due.is("4: digest " + i + " of kind " + kind, x.named(call, i), Play.digest(1, 2) ^ (i + 1));
            }
        }
        promise4Writes();
        promise4Wrong();
    }

    private static void promise4Writes() {
        FarCacheLine x = new FarCacheLine(8);
        int write = Play.write(x, 1, 2);
        int find = x.call(Play.FIND, 0);
        x.name(find, write, 0);
        Due.is("4: a write's number", x.name(write, write, 12), 1);
        Due.is("4: its digest", x.named(write, 0), Play.digest(1, 2) ^ 12);
        Due.is("4: a write's number once more", x.name(write, write, 3), 1);
        Due.is("4: the last number counts alone", x.named(write, 0), Play.digest(1, 2) ^ 3);
        x.data(write, 9);
        Due.is("4: its digest goes with its bytes", x.named(write, 0), Play.digest(1, 2, 9) ^ 3);
        x.name(find, write, 5);
        Due.is("4: a digest named is that of the bytes told by then", x.named(find, 0), Play.digest(1, 2));
        Due.is("4: without the write's own number", x.named(find, 1), Play.digest(1, 2, 9) ^ 5);
        x.begin(write, 9);
        Play.due("4: the digest sent", x, 0, Play.frameOf(0, 1, 0, Play.digest(1, 2, 9) ^ 3));
        Due.is("4: a write that was begun", x.name(write, write, 1), -1);
        Due.is("4: keeps its number", x.named(write, 0), Play.digest(1, 2, 9) ^ 3);
        Due.is("4: a digest of a write that was begun", x.name(find, write, 0), 3);
    }

    private static void promise4Wrong() {
        FarCacheLine x = new FarCacheLine(8);
        int write = Play.write(x, 1, 2);
        int other = Play.write(x, 3);
        int find = x.call(Play.FIND, 0);
        int read = x.call(Play.READ, 0);
        for (int none : new int[] {LOW, -1, 4, 30, HIGH}) {
            Due.is("4: no such call", x.name(none, write, 0), -1);
            Due.is("4: no such write", x.name(find, none, 0), -1);
            Due.is("4: neither", x.name(none, none, 0), -1);
        }
        Due.is("4: the other one is no write", x.name(find, read, 0), -1);
        Due.is("4: the other one is itself", x.name(find, find, 0), -1);
        Due.is("4: a write names another one", x.name(write, other, 0), -1);
        Due.is("4: a write names what is no write", x.name(write, find, 0), -1);
        Due.is("4: nothing was named", x.named(find, 0), 0);
        x.name(find, write, 0);
        x.begin(find, 9);
        Due.is("4: a find that was begun", x.name(find, write, 0), -1);
        Due.is("4: it names no more", x.named(find, 1), 0);
    }

    private static void promise5() {
        FarCacheLine x = new FarCacheLine(8);
        int write = Play.write(x, 1, 2);
        int ask = x.call(Play.ASK, 3);
        for (int deadline : new int[] {LOW, -1, 0, 100001, HIGH}) {
            Due.no("5: deadline " + deadline, x.begin(write, deadline));
        }
        for (int none : new int[] {LOW, -1, 2, 30, HIGH}) {
            Due.no("5: no such call", x.begin(none, 5));
        }
        Due.is("5: nothing was sent", x.count(0), 0);
        Due.yes("5: the least deadline", x.begin(write, 1));
        Due.no("5: begun already", x.begin(write, 1));
        Due.yes("5: the highest deadline", x.begin(ask, 100000));
        Play.due("5: opened once", x, 0, Play.frameOf(0, 1, 0, Play.digest(1, 2)), Play.frameOf(1, 3, 0, 3));
        Due.is("5: too late after one tick", x.tick(1), 1);
        Due.is("5: too late", x.end(write), -1);
        Due.no("5: ended already", x.begin(write, 1));
        for (int i = 0; i < 99; i++) {
            Due.is("5: not yet", x.tick(1000), 0);
        }
        Due.is("5: not yet", x.tick(998), 0);
        Due.is("5: still goes on", x.end(ask), 0);
        Due.is("5: too late at just its deadline", x.tick(1), 1);
        Due.is("5: too late", x.end(ask), -1);

        int find = x.call(Play.FIND, 0);
        Due.yes("5: a find without digests", x.begin(find, 5));
        Due.is("5: is done at once", x.end(find), 1);
    }

    private static void promise6() {
        FarCacheLine x = new FarCacheLine(8);
        for (int end : new int[] {LOW, -1, 2, HIGH}) {
            Due.is("6: no such end", x.carry(end, 5), -1);
        }
        int find = x.call(Play.FIND, 0);
        int write = Play.write(x, 1, 2);
        x.name(find, write, 0);
        x.name(find, write, 1);
        x.begin(find, 9);
        Due.is("6: n below 0", x.carry(0, -1), -1);
        Due.is("6: n below 0", x.carry(1, LOW), -1);
        Due.is("6: nothing from the server", x.carry(1, 5), 0);
        Due.is("6: none", x.carry(0, 0), 0);
        Due.is("6: in part", x.carry(0, 12), 12);
        Due.is("6: not whole: no answer", x.count(1), 0);
        Due.is("6: the last one of the first frame", x.carry(0, 1), 1);
        Due.is("6: whole: an answer", x.count(1), 6);
        Due.is("6: all, if there are not so many", x.carry(0, HIGH), 13);
        Due.is("6: both answers", x.count(1), 12);
        Due.is("6: the first answer and a byte", x.carry(1, 7), 7);
        Due.is("6: one is answered", x.about(find, 2), 1);
        Due.is("6: the rest", x.carry(1, HIGH), 5);
        Due.is("6: done", x.end(find), 1);
        Due.is("6: no more", x.carry(1, HIGH), 0);

        int ask = x.call(Play.ASK, 4);
        x.begin(ask, 9);
        x.resume(ask);
        x.lie(0, 12, 1);
        Due.is("6: with the byte that breaks the line", x.carry(0, 20), 13);
        Due.is("6: nothing is underway then", x.count(0), 0);
        Due.is("6: the line broke", x.count(6), 1);
    }

    private static void promise7() {
        FarCacheLine x = new FarCacheLine(8);
        int write = Play.write(x, Play.bytes(20, 1));
        x.begin(write, 99);
        Due.is("7: n below 0", x.cut(-1, 0), -1);
        Due.is("7: m below 0", x.cut(0, -1), -1);
        Due.is("7: both", x.cut(LOW, LOW), -1);
        Due.is("7: n is fine, m isn't", x.cut(5, LOW), -1);
        Due.is("7: nothing happened", x.count(0), 13);
        Due.is("7: and nothing arrived", x.count(2), 1);
        Due.is("7: 13 from the client, 4 from the server", x.cut(13, 4), 1);
        Due.is("7: gone from the server", x.count(1), 0);
        Due.is("7: the partial stays", x.about(write, 3), 0);
        Due.is("7: the call goes on", x.end(write), 0);
        Due.is("7: a cut is no break", x.count(6), 0);
        x.resume(write);
        Due.is("7: what the client sends by m goes too", x.cut(HIGH, HIGH), 13 + 13 + 9 + 5);
        Due.is("7: gone from the client", x.count(0), 0);
        x.resume(write);
        x.carry(0, HIGH);
        x.carry(1, HIGH);
        Due.is("7: gathered bytes don't count", x.cut(15, 0), 25);
        Due.is("7: a piece came", x.about(write, 3), 8);
        x.resume(write);
        Due.is("7: what was gathered is gone", x.carry(0, HIGH), 13);
        Due.is("7: and the line is whole", x.count(6), 0);
        Play.due("7: it goes on behind the piece", x, 1, Play.frame(write, 12, 8));
        x.resume(write);
        Due.is("7: both ways", x.cut(0, 0), 18);
        x.resume(write);
        x.lie(0, 0, 128);
        Due.is("7: a break ahead of the cut leaves nothing", x.cut(1, 7), 0);
        Due.is("7: and counts", x.count(6), 1);
        Due.is("7: an empty line", x.cut(0, 0), 0);
    }

    private static void promise8() {
        FarCacheLine x = new FarCacheLine(8);
        int tell = Play.tell(x, 5, Play.write(x, 1), Play.write(x, 2), Play.write(x, 3));
        x.begin(tell, 9);
        for (int end : new int[] {LOW, -1, 2, HIGH}) {
            Due.no("8: no such end", x.lose(end, 0));
        }
        for (int i : new int[] {LOW, -1, 5, HIGH}) {
            Due.no("8: no such frame", x.lose(0, i));
        }
        Due.no("8: nothing from the server", x.lose(1, 0));
        int[][] frames = {Play.frameOf(3, 4, 0, 5), Play.frameOf(3, 5, 0, Play.digest(1)),
            Play.frameOf(3, 5, 1, Play.digest(2)), Play.frameOf(3, 5, 2, Play.digest(3)), Play.frame(3, 6, 3)};
        Play.due("8: all frames", x, 0, frames);
        Due.yes("8: one in between", x.lose(0, 2));
        Play.due("8: is gone", x, 0, frames[0], frames[1], frames[3], frames[4]);
        Due.is("8: frames", x.count(2), 4);
        Due.yes("8: the last one", x.lose(0, 3));
        Play.due("8: is gone", x, 0, frames[0], frames[1], frames[3]);
        x.carry(0, 3);
        Due.no("8: one that has arrived in part doesn't count", x.lose(0, 2));
        Due.yes("8: the first one of which nothing has arrived", x.lose(0, 0));
        Due.is("8: bytes", x.count(0), 23);
        Due.is("8: the rest of the first one stays", x.underway(0, 9), frames[0][12]);
        Due.is("8: and the next one is behind it", x.underway(0, 10 + 3), 2);
        Due.yes("8: the last one", x.lose(0, 0));
        Due.no("8: none left", x.lose(0, 0));
        Due.is("8: the first one goes on", x.carry(0, 100), 10);
        Due.is("8: nothing broke", x.count(6), 0);

        int find = x.call(Play.FIND, 0);
        x.name(find, 0, 0);
        x.begin(find, 9);
        x.carry(0, 100);
        Due.yes("8: from the server", x.lose(1, 0));
        Due.is("8: nothing is left", x.count(1), 0);
    }

    private static void promise9() {
        FarCacheLine x = new FarCacheLine(8);
        int tell = Play.tell(x, 5, Play.write(x, 1), Play.write(x, 2));
        x.begin(tell, 9);
        for (int end : new int[] {LOW, -1, 2, HIGH}) {
            Due.no("9: no such end", x.twice(end, 0));
        }
        for (int i : new int[] {LOW, -1, 4, HIGH}) {
            Due.no("9: no such frame", x.twice(0, i));
        }
        Due.no("9: nothing from the server", x.twice(1, 0));
        int[][] frames = {Play.frameOf(2, 4, 0, 5), Play.frameOf(2, 5, 0, Play.digest(1)),
            Play.frameOf(2, 5, 1, Play.digest(2)), Play.frame(2, 6, 2)};
        Due.yes("9: one in between", x.twice(0, 1));
        Play.due("9: right behind itself", x, 0, frames[0], frames[1], frames[1], frames[2], frames[3]);
        Due.yes("9: the last one", x.twice(0, 4));
        Play.due("9: is last", x, 0, frames[0], frames[1], frames[1], frames[2], frames[3], frames[3]);
        Due.is("9: frames", x.count(2), 6);
        x.carry(0, 13);
        x.carry(0, 1);
        Due.no("9: one that has arrived in part doesn't count", x.twice(0, 4));
        x.lie(0, 12 + 3, 7);
        Due.yes("9: the first one of which nothing has arrived", x.twice(0, 0));
        Due.is("9: it comes as it has become", x.underway(0, 12 + 3), 7);
        Due.is("9: it comes as it has become", x.underway(0, 12 + 13 + 3), 7);
        Due.is("9: bytes", x.count(0), 12 + 13 + 13 + 13 + 5 + 5);
        promise9WithoutRoom();
    }

    private static void promise9WithoutRoom() {
        FarCacheLine x = new FarCacheLine(8);
        int ask = x.call(Play.ASK, 6);
        x.begin(ask, 9);
        for (int i = 1; i < 153; i++) {
            Due.yes("9: once more", x.twice(0, i / 2));
        }
        Due.is("9: bytes", x.count(0), 153 * 13);
        Due.is("9: all had room", x.count(7), 0);
        Due.yes("9: without room it is true", x.twice(0, 7));
        Due.is("9: but it doesn't come", x.count(0), 153 * 13);
        Due.is("9: and counts", x.count(7), 1);
        x.carry(0, 2);
        Due.yes("9: two bytes less", x.twice(0, 7));
        Due.is("9: there is room for it then", x.count(0), 2000);
        Due.is("9: no more counts", x.count(7), 1);
        Due.is("9: all of it is whole", x.carry(0, HIGH), 2000);
        Due.is("9: nothing broke", x.count(6), 0);
        Due.is("9: each was answered", x.count(1), 154 * 6);
    }

    private static void promise10() {
        FarCacheLine x = new FarCacheLine(8);
        int ask = x.call(Play.ASK, 0);
        x.begin(ask, 9);
        for (int end : new int[] {LOW, -1, 1, 2, HIGH}) {
            Due.no("10: no such end, or nothing from it", x.lie(end, 0, 1));
        }
        for (int k : new int[] {LOW, -1, 13, HIGH}) {
            Due.no("10: no such byte", x.lie(0, k, 1));
        }
        Due.no("10: mask 0", x.lie(0, 4, 0));
        Due.no("10: mask 256", x.lie(0, 4, 256));
        Due.no("10: mask with low bits 0", x.lie(0, 4, LOW));
        Due.yes("10: mask 0x1FF", x.lie(0, 4, 0x1FF));
        Due.is("10: its lowest eight bits", x.underway(0, 4), 255);
        Due.yes("10: mask -256 + 15", x.lie(0, 4, -241));
        Due.is("10: xor", x.underway(0, 4), 240);
        x.lie(0, 4, 240);
        Play.due("10: back again", x, 0, Play.frameOf(0, 3, 0, 0));
        x.carry(0, 4);
        Due.yes("10: byte 0 is the first that has not arrived", x.lie(0, 0, 9));
        Due.is("10: 0 xor 9", x.underway(0, 0), 9);
        Due.yes("10: the last byte: the sum that goes with it", x.lie(0, 8, 15 ^ 24));
        Due.no("10: those that have arrived don't count", x.lie(0, 9, 1));
        Due.is("10: all arrive", x.carry(0, 100), 9);
        Due.is("10: a sum that is so breaks nothing", x.count(6), 0);
        Due.yes("10: from the server", x.lie(1, 5, 64));
        Due.is("10: a sum that isn't so", x.carry(1, 100), 6);
        Due.is("10: breaks the line", x.count(6), 1);
        Due.is("10: and is nothing to the call", x.end(ask), 0);
    }

    private static void promise11() {
        FarCacheLine x = new FarCacheLine(8);
        Due.is("11: nothing", x.underway(0, 0), -1);
        int ask = x.call(Play.ASK, 0x1122334455667788L);
        x.begin(ask, 9);
        int[] frame = {12, 0, 3, 0, 0x11, 0x22, 0x33, 0x44, 0x55, 0x66, 0x77, 0x88, 0};
        for (int i = 0; i < 12; i++) {
            frame[12] = (frame[12] + frame[i]) & 255;
        }
        for (int k = 0; k < 13; k++) {
            Due.is("11: byte " + k, x.underway(0, k), frame[k]);
        }
        for (int k : new int[] {LOW, -1, 13, HIGH}) {
            Due.is("11: no such byte", x.underway(0, k), -1);
        }
        for (int end : new int[] {LOW, -1, 1, 2, HIGH}) {
            Due.is("11: no such end, or nothing from it", x.underway(end, 0), -1);
        }
        x.carry(0, 5);
        Due.is("11: those that have arrived don't count", x.underway(0, 0), 0x22);
        Due.is("11: the last one", x.underway(0, 7), frame[12]);
        Due.is("11: no more", x.underway(0, 8), -1);
        x.carry(0, 8);
        Play.due("11: from the server", x, 1, Play.frame(0, 13, 0, 2));
    }

    private static void promise12() {
        FarCacheLine x = new FarCacheLine(8);
        int write = Play.stored(x, Play.bytes(20, 1));
        for (int none : new int[] {LOW, -1, 1, 30, HIGH}) {
            Due.is("12: no such call", x.resume(none), -1);
        }
        Due.is("12: one that ended", x.resume(write), -1);
        int read = Play.read(x, write);
        Due.is("12: one that wasn't begun", x.resume(read), -1);
        Due.is("12: nothing was sent", x.count(0), 0);
        x.begin(read, 99);
        x.carry(0, 100);
        x.carry(1, 27);
        x.cut(0, 0);
        Due.is("12: bytes that have come to a read", x.resume(read), 16);
        Play.due("12: from there on", x, 0, Play.frameOf(read, 2, 16, Play.digest(Play.bytes(20, 1))));
        Play.settle(x);
        Due.is("12: done", x.end(read), 1);

        int find = x.call(Play.FIND, 0);
        x.name(find, write, 0);
        x.name(find, write, 1);
        x.name(find, write, 2);
        x.begin(find, 99);
        x.carry(0, 100);
        x.lose(1, 1);
        x.carry(1, 100);
        Due.is("12: digests that were answered to a find", x.resume(find), 2);
        Play.due("12: the other one", x, 0, Play.frameOf(find, 0, 1, Play.digest(Play.bytes(20, 1)) ^ 1));
        x.cut(0, 0);
        promise12Others(x, write);
    }

    private static void promise12Others(FarCacheLine x, int write) {
        int tell = Play.tell(x, 8, write, write);
        x.busy(1);
        x.begin(tell, 99);
        Play.settle(x);
        Due.is("12: it waits", x.about(tell, 0), 1);
        Due.is("12: others: 0", x.resume(tell), 0);
        Due.is("12: it doesn't wait", x.about(tell, 0), 0);
        Due.is("12: its tries stay", x.about(tell, 1), 1);
        Due.is("12: opened", x.count(0), 13 + 13 + 13 + 5);
        x.tick(1);
        Due.is("12: not once more", x.count(0), 13 + 13 + 13 + 5);
        Play.settle(x);
        int ask = x.call(Play.ASK, 8);
        x.begin(ask, 99);
        x.carry(0, 100);
        x.carry(1, 13);
        Due.is("12: one has come to the ask", x.about(ask, 2), 1);
        x.cut(0, 0);
        Due.is("12: an ask: 0", x.resume(ask), 0);
        Due.is("12: none has come to it then", x.about(ask, 2), 0);
        Play.settle(x);
        Due.is("12: done", x.end(ask), 1);
        Due.is("12: both have come", x.about(ask, 2), 2);
        int other = Play.write(x, 4);
        x.begin(other, 99);
        Due.is("12: a write: 0", x.resume(other), 0);
        Due.is("12: sent twice", x.count(0), 26);
    }

    private static void promise13() {
        FarCacheLine x = new FarCacheLine(8);
        for (int n : new int[] {LOW, -1, 1001, HIGH}) {
            Due.is("13: tick(" + n + ")", x.tick(n), -1);
        }
        for (int deadline : new int[] {3, 1, 3, 4, 1000}) {
            x.begin(x.call(Play.ASK, 0), deadline);
        }
        Due.is("13: none", x.tick(0), 0);
        Due.is("13: none was too late", x.end(1), 0);
        Due.is("13: three are too late", x.tick(3), 3);
        Due.is("13: the fourth isn't", x.end(3), 0);
        Due.is("13: the other two", x.tick(1000), 2);
        Due.is("13: they count once", x.tick(1000), 0);

        FarCacheLine y = new FarCacheLine(8);
        Due.is("13: a thousand times a thousand", ticks(y, 1000), 1000);
        Due.is("13: the clock stands", y.tick(1), -1);
        Due.is("13: none is fine", y.tick(0), 0);
        y.begin(y.call(Play.ASK, 0), 1);
        Due.is("13: none is too late by an answer of none", y.tick(1), -1);
        Due.is("13: it goes on", y.end(0), 0);
        FarCacheLine z = new FarCacheLine(8);
        z.tick(1);
        Due.is("13: by a thousand from 1 on", ticks(z, 1000), 999);
        Due.is("13: one more would be above", z.tick(1000), -1);
        Due.is("13: just a million", z.tick(999), 0);
    }

    private static void promise14() {
        FarCacheLine x = new FarCacheLine(8);
        for (int none : new int[] {LOW, -1, 0, 30, HIGH}) {
            Due.is("14: no such call", x.end(none), -9);
        }
        int write = Play.write(x, 1);
        Due.is("14: not begun", x.end(write), 0);
        x.begin(write, 9);
        Due.is("14: goes on", x.end(write), 0);
        Play.settle(x);
        Due.is("14: done", x.end(write), 1);
        int ask = x.call(Play.ASK, 1);
        x.begin(ask, 1);
        x.tick(1);
        Due.is("14: too late", x.end(ask), -1);
        x.cut(0, 0);
        int read = x.call(Play.READ, 1);
        x.name(read, write, 1);
        Play.run(x, read);
        Due.is("14: not there", x.end(read), -2);
        int differs = Play.write(x, 2);
        x.name(differs, differs, 1);
        Play.run(x, differs);
        Due.is("14: differs", x.end(differs), -3);
        for (int i = 2; i <= 10; i++) {
            Play.stored(x, 100, i);
        }
        int eleventh = Play.write(x, 100, 11);
        Play.run(x, eleventh);
        Due.is("14: no room", x.end(eleventh), -4);
        x.busy(100);
        int again = Play.read(x, write);
        Play.run(x, again);
        for (int i = 0; i < 4; i++) {
            Due.is("14: goes on", x.end(again), 0);
            x.tick(8);
            Play.settle(x);
        }
        Due.is("14: gave up", x.end(again), -5);
        Due.is("14: the first one stays done", x.end(write), 1);
    }

    private static void promise15() {
        FarCacheLine x = new FarCacheLine(8);
        int write = Play.stored(x, 0, 255, 128, 1, 2, 3, 4, 5, 6);
        int read = Play.read(x, write);
        for (int none : new int[] {LOW, -1, 2, 30, HIGH}) {
            Due.noByte("15: no such call", x, none, 0);
        }
        Due.noByte("15: what is no read", x, write, 0);
        Due.noByte("15: not begun", x, read, 0);
        x.begin(read, 9);
        x.carry(0, 100);
        x.carry(1, 13);
        int[] row = {0, 255, 128, 1, 2, 3, 4, 5, 6};
        for (int i = 0; i < 8; i++) {
            Due.is("15: byte " + i, x.got(read, i), row[i]);
        }
        Due.noByte("15: has not come", x, read, 8);
        Play.settle(x);
        Due.is("15: has come", x.got(read, 8), 6);
        for (int i : new int[] {LOW, -1, 9, 60, HIGH}) {
            Due.noByte("15: no such byte", x, read, i);
        }
        int find = x.call(Play.FIND, 0);
        x.name(find, write, 0);
        Play.run(x, find);
        Due.noByte("15: a find", x, find, 0);
    }

    private static void promise16() {
        FarCacheLine x = new FarCacheLine(8);
        for (int none : new int[] {LOW, -1, 0, 30, HIGH}) {
            Due.is("16: no such call", x.named(none, 0), 0);
        }
        int write = x.call(Play.WRITE, 0);
        Due.is("16: of no bytes", x.named(write, 0), 0);
        x.data(write, 7);
        Due.is("16: of one byte", x.named(write, 0), 6597069769266L);
        x.data(write, 200);
        Due.is("16: of two", x.named(write, 0), Play.digest(7, 200));
        x.name(write, write, -1L);
        Due.is("16: xor its number", x.named(write, 0), ~Play.digest(7, 200));
        for (int i : new int[] {LOW, -1, 1, HIGH}) {
            Due.is("16: of a write only 0", x.named(write, i), 0);
        }
        x.name(write, write, 0);
        int find = x.call(Play.FIND, 0);
        for (int i = 0; i < 4; i++) {
            Due.is("16: not named", x.named(find, i), 0);
            x.name(find, write, i + 1);
            Due.is("16: named", x.named(find, i), Play.digest(7, 200) ^ (i + 1));
        }
        for (int i : new int[] {LOW, -1, 4, HIGH}) {
            Due.is("16: no such digest", x.named(find, i), 0);
        }
        Play.run(x, write);
        int tell = x.call(Play.TELL, 3);
        x.name(tell, write, 0);
        x.name(tell, write, 0);
        Play.run(x, tell);
        Due.is("16: of a tell", x.named(tell, 1), Play.digest(7, 200));
        Due.is("16: of a tell no more", x.named(tell, 2), 0);
        int ask = x.call(Play.ASK, 3);
        x.begin(ask, 9);
        x.carry(0, 100);
        Due.is("16: has not come", x.named(ask, 0), 0);
        x.carry(1, 13);
        Due.is("16: has come to an ask", x.named(ask, 0), Play.digest(7, 200));
        Due.is("16: not the second one", x.named(ask, 1), 0);
        Play.settle(x);
        Due.is("16: the second one too", x.named(ask, 1), Play.digest(7, 200));
        Due.is("16: no third one", x.named(ask, 2), 0);
    }

    private static void promise17() {
        FarCacheLine x = new FarCacheLine(8);
        int write = Play.stored(x, 1, 2, 3);
        int find = x.call(Play.FIND, 0);
        x.name(find, write, 1);
        x.name(find, write, 0);
        x.name(find, write, 2);
        x.name(find, write, 3);
        Due.is("17: not begun", x.missing(find, 0), -1);
        x.begin(find, 9);
        x.carry(0, 100);
        Due.is("17: not answered", x.missing(find, 0), -1);
        x.lose(1, 2);
        x.carry(1, 100);
        Due.is("17: the first one", x.missing(find, 0), 0);
        Due.is("17: the second one", x.missing(find, 1), 3);
        Due.is("17: no more", x.missing(find, 2), -1);
        x.resume(find);
        Play.settle(x);
        Due.is("17: done", x.end(find), 1);
        Due.is("17: the first one", x.missing(find, 0), 0);
        Due.is("17: the second one", x.missing(find, 1), 2);
        Due.is("17: the third one", x.missing(find, 2), 3);
        for (int i : new int[] {LOW, -1, 3, 4, HIGH}) {
            Due.is("17: no such one", x.missing(find, i), -1);
        }
        for (int none : new int[] {LOW, -1, 2, 30, HIGH}) {
            Due.is("17: no such call", x.missing(none, 0), -1);
        }
        Due.is("17: a write", x.missing(write, 0), -1);
        int read = x.call(Play.READ, 0);
        x.name(read, write, 1);
        Play.run(x, read);
        Due.is("17: a read", x.missing(read, 0), -1);
    }

    private static void promise18() {
        FarCacheLine x = new FarCacheLine(8);
        for (int none : new int[] {LOW, -1, 0, 30, HIGH}) {
            for (int what = 0; what <= 3; what++) {
                Due.is("18: no such call", x.about(none, what), -1);
            }
        }
        int write = Play.write(x, Play.bytes(20, 1));
        for (int what : new int[] {LOW, -1, 4, HIGH}) {
            Due.is("18: no such thing", x.about(write, what), -1);
        }
        aboutIs("18: a new write", x, write, 0, 0, 0, -1);
        x.begin(write, 99);
        x.carry(0, 100);
        aboutIs("18: a partial without bytes", x, write, 0, 0, 0, 0);
        x.carry(1, 100);
        x.lose(0, 1);
        x.carry(0, 100);
        aboutIs("18: a piece came", x, write, 0, 0, 0, 8);
        x.carry(1, 100);
        aboutIs("18: it waits", x, write, 1, 1, 0, 8);
        x.tick(1);
        aboutIs("18: it doesn't any more", x, write, 0, 1, 0, 8);
        Play.settle(x);
        aboutIs("18: it is done", x, write, 0, 1, 0, -1);

        int read = Play.read(x, write);
        x.begin(read, 99);
        x.carry(0, 100);
        x.carry(1, 13);
        aboutIs("18: a read", x, read, 0, 0, 8, -1);
        Play.settle(x);
        aboutIs("18: a read", x, read, 0, 0, 20, -1);
        int find = x.call(Play.FIND, 0);
        x.name(find, write, 0);
        x.name(find, write, 1);
        x.begin(find, 9);
        x.carry(0, 100);
        x.carry(1, 6);
        aboutIs("18: a find", x, find, 0, 0, 1, -1);
        Play.settle(x);
        aboutIs("18: a find", x, find, 0, 0, 2, -1);
        int tell = Play.tell(x, 3, write, write);
        Play.run(x, tell);
        aboutIs("18: a tell", x, tell, 0, 0, 0, -1);
        int ask = x.call(Play.ASK, 3);
        Play.run(x, ask);
        aboutIs("18: an ask", x, ask, 0, 0, 2, -1);
        promise18Waits();
    }

    private static void promise18Waits() {
        FarCacheLine x = new FarCacheLine(8);
        int read = x.call(Play.READ, 0);
        x.busy(100);
        Play.run(x, read);
        int[] ticks = {1, 2, 4, 8};
        for (int i = 0; i < 4; i++) {
            for (int left = ticks[i]; left > 0; left--) {
                aboutIs("18: it tries again", x, read, left, i + 1, 0, -1);
                Due.is("18: nothing was sent", x.count(0), 0);
                x.tick(1);
            }
            aboutIs("18: it tried again", x, read, 0, i + 1, 0, -1);
            Due.is("18: opened", x.count(0), 13);
            Play.settle(x);
        }
        aboutIs("18: it gave up", x, read, 0, 5, 0, -1);
    }

    private static void aboutIs(String what, FarCacheLine x, int call, int wait, int tries, int come, int partial) {
        Due.is(what + ", about 0", x.about(call, 0), wait);
        Due.is(what + ", about 1", x.about(call, 1), tries);
        Due.is(what + ", about 2", x.about(call, 2), come);
        Due.is(what + ", about 3", x.about(call, 3), partial);
    }

    private static void promise19() {
        FarCacheLine x = new FarCacheLine(8);
        for (int n : new int[] {LOW, -1, 101, HIGH}) {
            Due.no("19: busy(" + n + ")", x.busy(n));
        }
        Due.is("19: not busy", x.count(8), 0);
        Due.yes("19: the most", x.busy(100));
        Due.no("19: above", x.busy(101));
        Due.is("19: stays", x.count(8), 100);
        Due.yes("19: in its place", x.busy(2));
        Due.is("19: not added", x.count(8), 2);
        int ask = x.call(Play.ASK, 0);
        Play.run(x, ask);
        Due.is("19: one less", x.count(8), 1);
        Due.is("19: it goes on", x.end(ask), 0);
        Due.yes("19: none", x.busy(0));
        Due.is("19: not busy", x.count(8), 0);
        x.resume(ask);
        Play.settle(x);
        Due.is("19: answered", x.end(ask), -2);
    }

    private static void promise20() {
        FarCacheLine x = new FarCacheLine(8);
        int write = Play.write(x, 1, 2, 3);
        for (int none : new int[] {LOW, -1, 1, 30, HIGH}) {
            Due.no("20: no such call", x.forget(none));
        }
        Due.no("20: no blob yet", x.forget(write));
        Play.run(x, write);
        Due.is("20: a blob", x.count(4), 1);
        int read = Play.read(x, write);
        Due.no("20: no write", x.forget(read));
        int longer = Play.write(x, 1, 2);
        Due.no("20: of what has been told by now there is none", x.forget(longer));
        x.data(longer, 3);
        x.name(longer, longer, 77);
        Due.yes("20: the number doesn't count", x.forget(longer));
        Due.is("20: it went", x.count(4), 0);
        Due.no("20: it is gone", x.forget(write));
        Play.run(x, read);
        Due.is("20: a read doesn't find it", x.end(read), -2);
        int first = Play.stored(x, 10);
        int second = Play.stored(x, 20);
        int third = Play.stored(x, 30);
        Due.yes("20: one in between", x.forget(second));
        Due.is("20: two are left", x.count(4), 2);
        int fourth = Play.stored(x, 40);
        int find = x.call(Play.FIND, 0);
        x.name(find, first, 0);
        x.name(find, second, 0);
        x.name(find, third, 0);
        x.name(find, fourth, 0);
        Play.run(x, find);
        Due.is("20: that one is missing", x.missing(find, 0), 1);
        Due.is("20: and no other one", x.missing(find, 1), -1);
    }

    private static void promise21() {
        FarCacheLine x = new FarCacheLine(8);
        for (int what : new int[] {LOW, -1, 9, HIGH}) {
            Due.is("21: count(" + what + ")", x.count(what), -1);
        }
        int write = Play.write(x, 1);
        int tell = Play.tell(x, 1, write);
        x.begin(write, 99);
        x.begin(tell, 99);
        countsAre("21: four frames", x, 44, 0, 4, 0, 0, 0, 0, 0, 0);
        x.carry(0, 1);
        countsAre("21: one has arrived in part", x, 43, 0, 3, 0, 0, 0, 0, 0, 0);
        x.carry(0, 13);
        countsAre("21: one is answered, the next one in part", x, 30, 5, 2, 1, 0, 0, 0, 0, 0);
        x.carry(0, 100);
        countsAre("21: both are answered", x, 0, 10, 0, 2, 0, 1, 0, 0, 0);
        x.carry(1, 6);
        countsAre("21: the second one in part", x, 11, 4, 2, 0, 0, 1, 0, 0, 0);
        Play.settle(x);
        countsAre("21: a blob", x, 0, 0, 0, 0, 1, 1, 0, 0, 0);
        x.busy(7);
        int ask = x.call(Play.ASK, 0);
        x.begin(ask, 99);
        x.lie(0, 0, 255);
        x.carry(0, 1);
        countsAre("21: a break", x, 0, 0, 0, 0, 1, 1, 1, 0, 7);
        for (int i = 0; i < 153; i++) {
            x.resume(ask);
        }
        countsAre("21: full", x, 1989, 0, 153, 0, 1, 1, 1, 0, 7);
        x.resume(ask);
        countsAre("21: no room", x, 1989, 0, 153, 0, 1, 1, 1, 1, 7);
        x.twice(0, 0);
        countsAre("21: no room", x, 1989, 0, 153, 0, 1, 1, 1, 2, 7);
        x.cut(0, 0);
        countsAre("21: a cut", x, 0, 0, 0, 0, 1, 1, 1, 2, 7);
    }

    private static void countsAre(String what, FarCacheLine x, int... counts) {
        for (int i = 0; i < counts.length; i++) {
            Due.is(what + ", count " + i, x.count(i), counts[i]);
        }
    }
}
