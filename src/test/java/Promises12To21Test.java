/** Promises 12 to 21, each sentence beside a test of its own: calls that go on, the clock, and what can be asked. */
public final class Promises12To21Test {
    private static final int LOW = Play.LOW;
    private static final int HIGH = Play.HIGH;
    private static final int[] KINDS = {Play.FIND, Play.WRITE, Play.READ, Play.ASK, Play.TELL};

    private Promises12To21Test() {
    }

    public static void main(String[] args) {
        Suite.run(Promises12To21Test.class);
    }

    /** A new call of a kind that names the digest of call 0, if it may, and goes on. */
    private static int begun(FarCacheLine x, int kind) {
        int call = x.call(kind, 5);
        x.name(call, 0, 0);
        x.begin(call, 100000);
        x.cut(0, 0);
        return call;
    }

    /** On a forgeable line: the call waits once more. */
    private static void letWait(FarCacheLine x, int call) {
        Play.arrive(x, 1, Play.frame(call, 13, 0, 1));
    }

    @Says("A CALL is RESUMED: it is OPENED,")
    static void promise12AResumedCallIsOpened() {
        FarCacheLine x = new FarCacheLine(8);
        int write = Play.stored(x, Play.bytes(20, 1));
        int read = Play.read(x, write);
        x.begin(read, 99);
        x.carry(0, 13);
        x.carry(1, 27);
        x.cut(0, 0);
        x.resume(read);
        Play.due("from there on", x, 0, Play.frameOf(read, 2, 16, Play.digest(Play.bytes(20, 1))));
        x.resume(read);
        Due.is("each time", x.count(0), 26);
    }

    @Says("A CALL is RESUMED: it is OPENED,")
    static void promise12ContentGoesOnAfterCuts() {
        FarCacheLine x = new FarCacheLine(8);
        int[] row = Play.bytes(60, 7);
        int write = Play.write(x, row);
        x.begin(write, 99);
        for (int i = 0; i < 40 && x.end(write) == 0; i++) {
            x.carry(0, 13);
            x.carry(1, 5);
            x.carry(0, 17);
            x.cut(0, 5);
            x.resume(write);
        }
        Due.is("written", x.end(write), 1);
        int read = Play.read(x, write);
        x.begin(read, 99);
        for (int i = 0; i < 40 && x.end(read) == 0; i++) {
            x.cut(13, 20);
            x.resume(read);
        }
        Due.is("read", x.end(read), 1);
        for (int i = 0; i < 60; i++) {
            Due.is("byte " + i, x.got(read, i), row[i]);
        }
    }

    @Says("and doesn't WAIT any more")
    static void promise12AResumedCallDoesNotWait() {
        for (int kind : KINDS) {
            FarCacheLine x = Play.forgeable();
            int call = begun(x, kind);
            letWait(x, call);
            Due.is("it waits", x.about(call, 0), 1);
            x.resume(call);
            Due.is("it doesn't wait", x.about(call, 0), 0);
            int sent = x.count(0);
            x.tick(1000);
            Due.is("it isn't opened once more", x.count(0), sent);
        }
    }

    @Says("(its TRIES stay):")
    static void promise12AResumedCallsTriesStay() {
        FarCacheLine x = Play.forgeable();
        int ask = begun(x, Play.ASK);
        for (int tries = 1; tries <= 4; tries++) {
            letWait(x, ask);
            x.resume(ask);
            x.cut(0, 0);
            Due.is("they stay", x.about(ask, 1), tries);
        }
        letWait(x, ask);
        Due.is("so the fifth one ends it", x.end(ask), -5);
    }

    @Says("of a READ how many bytes have come,")
    static void promise12OfAReadHowManyBytesHaveCome() {
        FarCacheLine x = Play.forgeable();
        int read = begun(x, Play.READ);
        int come = 0;
        for (int size : new int[] {0, 1, 39, 20}) {
            Play.arrive(x, 1, Play.frame(read, 7, come, new int[size]));
            come += size;
            Due.is("so many", x.resume(read), come);
            x.cut(0, 0);
        }
    }

    @Says("of a FIND how many DIGESTS were answered,")
    static void promise12OfAFindHowManyWereAnswered() {
        FarCacheLine x = Play.forgeable();
        int find = x.call(Play.FIND, 0);
        for (int i = 0; i < 4; i++) {
            x.name(find, 0, i);
        }
        x.begin(find, 99);
        for (int place = 3; place >= 0; place--) {
            Due.is("so many", x.resume(find), 3 - place);
            x.cut(0, 0);
            Play.arrive(x, 1, Play.frame(find, 10, place, place % 2));
        }
        Due.is("done with all", x.end(find), 1);
    }

    @Says("of others 0;")
    static void promise12OfOthers0() {
        FarCacheLine x = Play.forgeable();
        Due.is("a write", x.resume(0), 0);
        x.carry(0, 13);
        x.carry(1, 5);
        x.cut(45, 0);
        Due.is("a write with a partial", x.about(0, 3), 40);
        Due.is("a write with a partial", x.resume(0), 0);
        x.cut(0, 0);
        int ask = begun(x, Play.ASK);
        Play.arrive(x, 1, Play.frameOf(ask, 5, 0, 9));
        Due.is("an ask to which a digest has come", x.resume(ask), 0);
        x.cut(0, 0);
        Due.is("none has come to it then", x.about(ask, 2), 0);
        Due.is("a tell", x.resume(begun(x, Play.TELL)), 0);
    }

    @Says("NONE if there is none such,")
    static void promise12ThereIsNoSuchCall() {
        FarCacheLine x = new FarCacheLine(8);
        x.begin(x.call(Play.ASK, 0), 9);
        x.cut(0, 0);
        for (int call : new int[] {LOW, -1, 1, 29, 30, HIGH}) {
            Due.is("call " + call, x.resume(call), -1);
        }
        Due.is("nothing is sent", x.count(0), 0);
    }

    @Says("or it doesn't GO ON.")
    static void promise12ACallThatDoesNotGoOn() {
        for (int kind : KINDS) {
            FarCacheLine x = Play.forgeable();
            int call = x.call(kind, 5);
            Due.is("not begun", x.resume(call), -1);
            x.name(call, 0, 0);
            x.begin(call, 1);
            x.tick(1);
            x.cut(0, 0);
            Due.is("too late", x.resume(call), -1);
            int refused = begun(x, kind);
            Play.arrive(x, 1, Play.frame(refused, 13, 0, 2));
            Due.is("not there", x.resume(refused), -1);
            Due.is("nothing is sent", x.count(0), 0);
        }
        FarCacheLine y = new FarCacheLine(8);
        Due.is("done", y.resume(Play.stored(y, 1)), -1);
    }

    @Says("The CLOCK goes on by n ticks (0 .. 1000):")
    static void promise13TheClockGoesOnByNTicks() {
        FarCacheLine x = Play.forgeable();
        int ask = begun(x, Play.ASK);
        for (int i = 0; i < 4; i++) {
            letWait(x, ask);
        }
        Due.is("none", x.tick(0), 0);
        Due.is("eight are left", x.about(ask, 0), 8);
        Due.is("one", x.tick(1), 0);
        Due.is("seven are left", x.about(ask, 0), 7);
        Due.is("six", x.tick(6), 0);
        Due.is("one is left", x.about(ask, 0), 1);
        int late = x.call(Play.ASK, 0);
        x.begin(late, 1000);
        Due.is("999 ticks", x.tick(999), 0);
        int other = x.call(Play.ASK, 0);
        x.begin(other, 1000);
        Due.is("1000 ticks, the most", x.tick(1000), 2);
    }

    @Says("how many CALLS were TOO LATE by this;")
    static void promise13HowManyWereTooLate() {
        FarCacheLine x = new FarCacheLine(8);
        for (int deadline : new int[] {3, 1, 3, 4, 1000}) {
            x.begin(x.call(Play.ASK, 0), deadline);
        }
        Due.is("by no ticks none", x.tick(0), 0);
        Due.is("three by three ticks", x.tick(3), 3);
        Due.is("not the fourth", x.end(3), 0);
        Due.is("the other two", x.tick(1000), 2);
        Due.is("they count once", x.tick(1000), 0);
    }

    @Says("how many CALLS were TOO LATE by this;")
    static void promise13All30MayBeTooLate() {
        FarCacheLine x = new FarCacheLine(8);
        for (int i = 0; i < 30; i++) {
            x.begin(x.call(Play.ASK, 0), 1 + i % 3);
        }
        Due.is("all", x.tick(3), 30);
    }

    @Says("NONE if it isn't so,")
    static void promise13NoSuchNumberOfTicks() {
        FarCacheLine x = new FarCacheLine(8);
        int ask = x.call(Play.ASK, 0);
        x.begin(ask, 1);
        for (int n : Play.outside(0, 1000)) {
            Due.is("tick " + n, x.tick(n), -1);
        }
        Due.is("the clock stands", x.end(ask), 0);
        Due.is("it goes on by one", x.tick(1), 1);
    }

    @Says("or it would be above 1000000.")
    static void promise13TheClockIsNeverAbove1000000() {
        FarCacheLine x = new FarCacheLine(8);
        x.tick(1);
        for (int i = 0; i < 999; i++) {
            x.tick(1000);
        }
        int ask = x.call(Play.ASK, 0);
        x.begin(ask, 999);
        Due.is("1000001 is above", x.tick(1000), -1);
        Due.is("nothing happened", x.end(ask), 0);
        Due.is("just 1000000", x.tick(999), 1);
        Due.is("too late", x.end(ask), -1);
        int other = x.call(Play.ASK, 0);
        Due.yes("a call can be begun then", x.begin(other, 100000));
        Due.is("one more is above", x.tick(1), -1);
        Due.is("the most", x.tick(1000), -1);
        Due.is("none more isn't", x.tick(0), 0);
        Due.is("it goes on", x.end(other), 0);
    }

    @Says("How a CALL ended;")
    static void promise14HowACallEnded() {
        FarCacheLine x = new FarCacheLine(8);
        int write = Play.stored(x, 1);
        Due.is("done", x.end(write), 1);
        int late = x.call(Play.ASK, 1);
        x.begin(late, 1);
        x.tick(1);
        x.cut(0, 0);
        Due.is("too late", x.end(late), -1);
        int read = x.call(Play.READ, 1);
        x.name(read, write, 1);
        Play.run(x, read);
        Due.is("not there", x.end(read), -2);
        int differs = Play.write(x, 2);
        x.name(differs, differs, 1);
        Play.run(x, differs);
        Due.is("differs", x.end(differs), -3);
        for (int i = 2; i <= 10; i++) {
            Play.stored(x, 100, i);
        }
        int eleventh = Play.write(x, 100, 11);
        Play.run(x, eleventh);
        Due.is("no room", x.end(eleventh), -4);
        x.busy(100);
        int again = Play.read(x, write);
        Play.run(x, again);
        for (int i = 0; i < 4; i++) {
            x.tick(8);
            Play.settle(x);
        }
        Due.is("gave up", x.end(again), -5);
        Due.is("the first one stays done", x.end(write), 1);
    }

    @Says("0 if it GOES ON,")
    static void promise14ACallThatGoesOn() {
        for (int kind : KINDS) {
            FarCacheLine x = Play.forgeable();
            int call = begun(x, kind);
            Due.is("begun", x.end(call), 0);
            letWait(x, call);
            Due.is("it waits", x.end(call), 0);
            x.tick(1);
            Due.is("it tried again", x.end(call), 0);
        }
    }

    @Says("or wasn't BEGUN;")
    static void promise14ACallThatWasNotBegun() {
        FarCacheLine x = new FarCacheLine(8);
        for (int kind : KINDS) {
            Due.is("not begun", x.end(x.call(kind, 0)), 0);
        }
        x.tick(1000);
        for (int kind : KINDS) {
            Due.is("not too late", x.end(kind), 0);
        }
    }

    @Says("- 9 if there is none such.")
    static void promise14ThereIsNoSuchCall() {
        FarCacheLine x = new FarCacheLine(8);
        for (int made = 0; made <= 30; made++) {
            for (int call : Play.outside(0, made - 1)) {
                Due.is("of " + made + ", call " + call, x.end(call), -9);
            }
            x.call(Play.ASK, 0);
        }
    }

    @Says("Byte i of those that have come to a READ.")
    static void promise15AByteThatHasCome() {
        FarCacheLine x = new FarCacheLine(8);
        int[] row = Play.bytes(60, 3);
        row[0] = 0;
        row[59] = 255;
        int read = Play.read(x, Play.stored(x, row));
        x.begin(read, 9);
        x.carry(0, 13);
        x.carry(1, 13);
        for (int i = 0; i < 8; i++) {
            Due.is("while it goes on", x.got(read, i), row[i]);
        }
        Play.settle(x);
        for (int i = 0; i < 60; i++) {
            Due.is("byte " + i, x.got(read, i), row[i]);
        }
        int late = Play.read(x, 0);
        x.begin(late, 1);
        x.carry(0, 13);
        x.carry(1, 13);
        x.tick(1);
        Due.is("too late", x.end(late), -1);
        Due.is("what came to it stays", x.got(late, 7), row[7]);
    }

    @Says("ArrayIndexOutOfBoundsException: there is no such byte")
    static void promise15ThereIsNoSuchByte() {
        FarCacheLine x = new FarCacheLine(8);
        int read = Play.read(x, Play.stored(x, Play.bytes(60, 3)));
        Due.noByte("not begun", x, read, 0);
        x.begin(read, 9);
        Due.noByte("none has come", x, read, 0);
        x.carry(0, 13);
        x.carry(1, 12);
        Due.noByte("the first piece isn't whole", x, read, 0);
        x.carry(1, 1);
        Due.is("the eighth byte", x.got(read, 7), Play.bytes(60, 3)[7]);
        for (int i : Play.outside(0, 7)) {
            Due.noByte("byte " + i + " has not come", x, read, i);
        }
        Play.settle(x);
        for (int i : Play.outside(0, 59)) {
            Due.noByte("no such byte, " + i, x, read, i);
        }
        for (int call : new int[] {LOW, -1, 2, 29, 30, HIGH}) {
            for (int i : new int[] {LOW, -1, 0, HIGH}) {
                Due.noByte("no such call, " + call, x, call, i);
            }
        }
    }

    @Says("(in what is no READ there is none).")
    static void promise15InWhatIsNoReadThereIsNone() {
        FarCacheLine x = Play.forgeable();
        for (int kind : new int[] {Play.FIND, Play.WRITE, Play.ASK, Play.TELL}) {
            int call = x.call(kind, 5);
            x.data(call, 7);
            x.name(call, 0, 0);
            x.begin(call, 9);
            x.cut(0, 0);
            Play.arrive(x, 1, Play.frame(call, 7, 0, 1, 2));
            for (int i : new int[] {LOW, -1, 0, 1, HIGH}) {
                Due.noByte("kind " + kind, x, call, i);
            }
        }
    }

    @Says("The DIGEST i that a CALL NAMES;")
    static void promise16TheDigestsThatACallNames() {
        int[] most = {4, 0, 1, 0, 3};
        for (int kind : new int[] {Play.FIND, Play.READ, Play.TELL}) {
            FarCacheLine x = new FarCacheLine(8);
            int write = Play.write(x, 7, 200);
            int call = x.call(kind, 0);
            for (int i = 0; i < most[kind]; i++) {
                x.name(call, write, i * 1000L);
            }
            x.data(write, 9);
            x.begin(call, 9);
            for (int i = 0; i < most[kind]; i++) {
                Due.is("kind " + kind, x.named(call, i), Play.digest(7, 200) ^ i * 1000L);
            }
        }
    }

    @Says("of an ASK, that has come;")
    static void promise16TheDigestsThatHaveComeToAnAsk() {
        FarCacheLine x = Play.forgeable();
        int ask = begun(x, Play.ASK);
        long[] digests = {Long.MIN_VALUE, 0, -1};
        for (int i = 0; i < 3; i++) {
            Due.is("not yet", x.named(ask, i), 0);
            Play.arrive(x, 1, Play.frameOf(ask, 5, i, digests[i]));
            Due.is("it has come", x.named(ask, i), digests[i]);
        }
        Play.arrive(x, 1, Play.frame(ask, 6, 3));
        Due.is("also when it is done", x.named(ask, 2), -1);
        int other = begun(x, Play.ASK);
        Play.arrive(x, 1, Play.frameOf(other, 5, 0, 7));
        x.resume(other);
        Due.is("it is opened: what has come is none again", x.named(other, 0), 0);
    }

    @Says("of a WRITE (i 0) that of the bytes that it has been told by now, xor its number;")
    static void promise16TheDigestOfAWriteByNow() {
        FarCacheLine x = new FarCacheLine(8);
        int write = x.call(Play.WRITE, 0);
        Due.is("of no bytes", x.named(write, 0), 0);
        x.name(write, write, 5);
        Due.is("of no bytes, xor its number", x.named(write, 0), 5);
        x.data(write, 7);
        Due.is("of one", x.named(write, 0), 6597069769266L ^ 5);
        x.name(write, write, -1);
        x.data(write, 200);
        Due.is("of two", x.named(write, 0), ~Play.digest(7, 200));
        x.begin(write, 1);
        Due.is("begun", x.named(write, 0), ~Play.digest(7, 200));
        x.tick(1);
        Due.is("ended", x.named(write, 0), ~Play.digest(7, 200));
    }

    @Says("0 if there is none such.")
    static void promise16ThereIsNoSuchDigest() {
        int[] most = {4, 1, 1, 0, 3};
        for (int kind : KINDS) {
            FarCacheLine x = Play.forgeable();
            int call = x.call(kind, 0);
            x.data(call, 9);
            for (int i = 0; i < most[kind]; i++) {
                x.name(call, kind == Play.WRITE ? call : 0, 77);
            }
            for (int i : Play.outside(0, most[kind] - 1)) {
                Due.is("kind " + kind + ", digest " + i, x.named(call, i), 0);
            }
            Due.is("the last one is there", x.named(call, most[kind] - 1) == 0 ? 0 : 1, kind == Play.ASK ? 0 : 1);
            for (int none : new int[] {LOW, -1, 2, 29, 30, HIGH}) {
                Due.is("no such call, " + none, x.named(none, 0), 0);
            }
        }
        FarCacheLine y = new FarCacheLine(8);
        Due.is("a find that names nothing", y.named(y.call(Play.FIND, 0), 0), 0);
        Due.is("a read that names nothing", y.named(y.call(Play.READ, 0), 0), 0);
    }

    @Says({"The i-th DIGEST of a FIND (its place among those NAMED)",
        "of which it was answered that there is no BLOB;"})
    static void promise17TheDigestsThatAreMissing() {
        for (int there = 0; there < 16; there++) {
            FarCacheLine x = Play.forgeable();
            int find = x.call(Play.FIND, 0);
            for (int i = 0; i < 4; i++) {
                x.name(find, 0, i);
            }
            x.begin(find, 9);
            x.cut(0, 0);
            int missing = 0;
            for (int place = 0; place < 4; place++) {
                int there1 = there >> place & 1;
                Play.arrive(x, 1, Play.frame(find, 10, place, there1));
                Due.is("the next one", x.missing(find, missing), there1 == 1 ? -1 : place);
                missing += 1 - there1;
            }
            Due.is("no more", x.missing(find, missing), -1);
            Due.is("done", x.end(find), 1);
        }
    }

    @Says("NONE if there is none such.")
    static void promise17NothingSuchIsMissing() {
        FarCacheLine x = Play.forgeable();
        int find = x.call(Play.FIND, 0);
        for (int i = 0; i < 4; i++) {
            x.name(find, 0, i);
        }
        Due.is("not begun", x.missing(find, 0), -1);
        x.begin(find, 9);
        x.cut(0, 0);
        Due.is("not answered", x.missing(find, 0), -1);
        Play.arrive(x, 1, Play.frame(find, 10, 3, 0));
        Due.is("the last one was answered first", x.missing(find, 0), 3);
        for (int i : Play.outside(0, 0)) {
            Due.is("no such one, " + i, x.missing(find, i), -1);
        }
        for (int place = 0; place < 3; place++) {
            Play.arrive(x, 1, Play.frame(find, 10, place, 0));
        }
        for (int i : Play.outside(0, 3)) {
            Due.is("all four are missing, but not " + i, x.missing(find, i), -1);
        }
        for (int call : new int[] {LOW, -1, 2, 29, 30, HIGH}) {
            Due.is("no such call, " + call, x.missing(call, 0), -1);
        }
        for (int kind : new int[] {Play.WRITE, Play.READ, Play.ASK, Play.TELL}) {
            int call = begun(x, kind);
            Play.arrive(x, 1, Play.frame(call, 10, 0, 0));
            Due.is("what is no find, kind " + kind, x.missing(call, 0), -1);
        }
        int empty = x.call(Play.FIND, 0);
        x.begin(empty, 9);
        Due.is("a find without digests", x.missing(empty, 0), -1);
    }

    @Says("Of a CALL: 0 in how many ticks it tries again")
    static void promise18InHowManyTicksItTriesAgain() {
        FarCacheLine x = Play.forgeable();
        int ask = begun(x, Play.ASK);
        for (int ticks = 1; ticks <= 8; ticks *= 2) {
            letWait(x, ask);
            for (int left = ticks; left > 0; left--) {
                Due.is("ticks", x.about(ask, 0), left);
                Due.is("nothing is sent", x.count(0), 0);
                x.tick(1);
            }
            Due.is("it tried again", x.count(0), 13);
            x.cut(0, 0);
        }
    }

    @Says("(0: it doesn't WAIT),")
    static void promise18ACallThatDoesNotWait() {
        for (int kind : KINDS) {
            FarCacheLine x = Play.forgeable();
            int call = x.call(kind, 5);
            Due.is("not begun", x.about(call, 0), 0);
            x.name(call, 0, 0);
            x.begin(call, 99);
            x.cut(0, 0);
            Due.is("begun", x.about(call, 0), 0);
            letWait(x, call);
            x.tick(1);
            Due.is("it tried again", x.about(call, 0), 0);
            x.cut(0, 0);
            letWait(x, call);
            x.resume(call);
            Due.is("resumed", x.about(call, 0), 0);
            x.cut(0, 0);
            letWait(x, call);
            Play.arrive(x, 1, Play.frame(call, 13, 0, 2));
            Due.is("ended", x.about(call, 0), 0);
        }
    }

    @Says("1 its TRIES,")
    static void promise18ItsTries() {
        for (int kind : KINDS) {
            FarCacheLine x = Play.forgeable();
            int call = x.call(kind, 5);
            Due.is("not begun", x.about(call, 1), 0);
            x.name(call, 0, 0);
            x.begin(call, 99);
            x.cut(0, 0);
            for (int tries = 0; tries < 5; tries++) {
                Due.is("tries", x.about(call, 1), tries);
                letWait(x, call);
            }
            Due.is("five when it gave up", x.about(call, 1), 5);
        }
    }

    @Says("2 how many bytes (READ), answers (FIND) or DIGESTS (ASK) have come,")
    static void promise18WhatHasCome() {
        FarCacheLine x = Play.forgeable();
        int read = begun(x, Play.READ);
        Due.is("no bytes", x.about(read, 2), 0);
        Play.arrive(x, 1, Play.frame(read, 7, 0, new int[40]));
        Due.is("40 bytes", x.about(read, 2), 40);
        Play.arrive(x, 1, Play.frame(read, 7, 40, new int[20]));
        Due.is("60 bytes", x.about(read, 2), 60);
        int find = x.call(Play.FIND, 0);
        x.name(find, 0, 0);
        x.name(find, 0, 1);
        Due.is("names aren't answers", x.about(find, 2), 0);
        x.begin(find, 9);
        x.cut(0, 0);
        Play.arrive(x, 1, Play.frame(find, 10, 1, 0));
        Due.is("one answer", x.about(find, 2), 1);
        Play.arrive(x, 1, Play.frame(find, 10, 0, 1));
        Due.is("two answers", x.about(find, 2), 2);
        int ask = begun(x, Play.ASK);
        for (int i = 0; i < 3; i++) {
            Due.is("digests", x.about(ask, 2), i);
            Play.arrive(x, 1, Play.frameOf(ask, 5, i, 9));
        }
        Due.is("three digests", x.about(ask, 2), 3);
    }

    @Says("0 for others;")
    static void promise18ToOthersNothingComes() {
        FarCacheLine x = Play.forgeable();
        Due.is("a write that was told 60 bytes", x.about(0, 2), 0);
        int tell = x.call(Play.TELL, 0);
        for (int i = 0; i < 3; i++) {
            x.name(tell, 0, i);
        }
        Due.is("a tell of three digests", x.about(tell, 2), 0);
        x.begin(tell, 9);
        Play.settle(x);
        Due.is("done", x.end(tell), 1);
        Due.is("a tell of three digests", x.about(tell, 2), 0);
        Play.arrive(x, 1, Play.frame(0, 7, 0, 1, 2));
        Due.is("a write", x.about(0, 2), 0);
    }

    @Says("3 how many bytes its PARTIAL has at the SERVER")
    static void promise18HowManyBytesItsPartialHas() {
        FarCacheLine x = new FarCacheLine(8);
        int write = Play.write(x, Play.bytes(60, 1));
        x.begin(write, 9);
        x.carry(0, 13);
        Due.is("empty", x.about(write, 3), 0);
        x.carry(1, 5);
        for (int bytes = 8; bytes <= 56; bytes += 8) {
            x.carry(0, 12);
            Due.is("a piece isn't whole", x.about(write, 3), bytes - 8);
            x.carry(0, 1);
            Due.is("a piece came", x.about(write, 3), bytes);
        }
        x.carry(0, 9);
        Due.is("all", x.about(write, 3), 60);
        x.tick(9);
        Due.is("also when the call is too late", x.about(write, 3), 60);
        FarCacheLine y = Play.forgeable();
        Play.arrive(y, 0, Play.frameOf(1, 1, 0, 5));
        Due.is("no call 1 yet", y.about(1, 3), -1);
        y.call(Play.ASK, 0);
        Due.is("of a call that is no write too", y.about(1, 3), 0);
    }

    @Says("(NONE: it has none);")
    static void promise18ItHasNoPartial() {
        FarCacheLine x = new FarCacheLine(8);
        for (int kind : KINDS) {
            Due.is("not begun", x.about(x.call(kind, 0), 3), -1);
        }
        x.begin(1, 9);
        Due.is("nothing has arrived", x.about(1, 3), -1);
        x.carry(0, 12);
        Due.is("the first frame isn't whole", x.about(1, 3), -1);
        Play.settle(x);
        Due.is("done", x.end(1), 1);
        Due.is("it is a blob now", x.about(1, 3), -1);
    }

    @Says("NONE if there is none such,")
    static void promise18ThereIsNoSuchCall() {
        FarCacheLine x = new FarCacheLine(8);
        x.call(Play.WRITE, 0);
        for (int call : new int[] {LOW, -1, 1, 29, 30, HIGH}) {
            for (int what = -1; what <= 4; what++) {
                Due.is("call " + call + ", what " + what, x.about(call, what), -1);
            }
        }
    }

    @Says("or for another what.")
    static void promise18ThereIsNoSuchWhat() {
        FarCacheLine x = Play.forgeable();
        for (int what : Play.outside(0, 3)) {
            Due.is("what " + what, x.about(0, what), -1);
        }
    }

    @Says("The SERVER is BUSY for n requests (0 .. 100) from now on;")
    static void promise19TheServerIsBusy() {
        FarCacheLine x = new FarCacheLine(8);
        for (int n : new int[] {1, 100, 99, 2}) {
            Due.yes("busy " + n, x.busy(n));
            Due.is("in place of what it was", x.count(8), n);
        }
        int ask = x.call(Play.ASK, 0);
        Play.run(x, ask);
        Due.is("one less", x.count(8), 1);
        Due.yes("none", x.busy(0));
        Due.is("not busy", x.count(8), 0);
        x.resume(ask);
        Play.settle(x);
        Due.is("answered", x.end(ask), -2);
    }

    @Says("The SERVER is BUSY for n requests (0 .. 100) from now on;")
    static void promise19TheServerIsBusyForJust100Requests() {
        FarCacheLine x = new FarCacheLine(8);
        x.busy(100);
        Play.flood(x, 101);
        x.carry(0, Play.ALL);
        Due.is("not busy any more", x.count(8), 0);
        for (int i = 0; i < 101; i++) {
            Due.is("the reason of answer " + i, x.underway(1, 6 * i + 4), i < 100 ? 1 : 2);
        }
    }

    @Says("false if n isn't so.")
    static void promise19TheServerCannotBeSoBusy() {
        FarCacheLine x = new FarCacheLine(8);
        for (int busy : new int[] {0, 7, 100}) {
            x.busy(busy);
            for (int n : Play.outside(0, 100)) {
                Due.no("busy " + n, x.busy(n));
                Due.is("as before", x.count(8), busy);
            }
        }
    }

    @Says("The SERVER's BLOB of the DIGEST of the bytes that a WRITE has been told by now (not xor) goes;")
    static void promise20ABlobGoes() {
        FarCacheLine x = new FarCacheLine(8);
        int[] writes = {Play.stored(x, 10), Play.stored(x, 20), Play.stored(x, 30)};
        Due.yes("one in between", x.forget(writes[1]));
        Due.is("two are left", x.count(4), 2);
        int find = x.call(Play.FIND, 0);
        for (int write : writes) {
            x.name(find, write, 0);
        }
        Play.run(x, find);
        Due.is("that one is missing", x.missing(find, 0), 1);
        Due.is("and no other one", x.missing(find, 1), -1);
        Play.stored(x, 40);
        Due.is("there is room for one in its place", x.count(4), 3);
    }

    @Says("The SERVER's BLOB of the DIGEST of the bytes that a WRITE has been told by now (not xor) goes;")
    static void promise20WhatAWriteHasBeenToldByNowCounts() {
        FarCacheLine x = new FarCacheLine(8);
        Play.stored(x, 1, 2, 3);
        Play.stored(x);
        int write = x.call(Play.WRITE, 0);
        x.name(write, write, 77);
        Due.yes("no bytes, not xor its number", x.forget(write));
        x.data(write, 1);
        x.data(write, 2);
        Due.no("two bytes", x.forget(write));
        x.data(write, 3);
        Due.yes("three bytes, of a write that wasn't begun", x.forget(write));
        Due.is("both went", x.count(4), 0);
    }

    @Says("false if there is no such WRITE")
    static void promise20ThereIsNoSuchWrite() {
        FarCacheLine x = new FarCacheLine(8);
        int write = Play.stored(x);
        for (int kind : new int[] {Play.FIND, Play.READ, Play.ASK, Play.TELL}) {
            int call = x.call(kind, 0);
            x.name(call, write, 0);
            Due.no("kind " + kind, x.forget(call));
        }
        for (int call : new int[] {LOW, -1, 5, 29, 30, HIGH}) {
            Due.no("call " + call, x.forget(call));
        }
        Due.is("the blob of no bytes stays", x.count(4), 1);
    }

    @Says("or BLOB.")
    static void promise20ThereIsNoSuchBlob() {
        FarCacheLine x = new FarCacheLine(8);
        int write = Play.write(x, 1, 2);
        Due.no("an empty server", x.forget(write));
        x.begin(write, 9);
        x.carry(0, 13);
        x.carry(1, 5);
        x.carry(0, 7);
        Due.is("a partial", x.about(write, 3), 2);
        Due.no("a partial is no blob", x.forget(write));
        Due.is("it stays", x.about(write, 3), 2);
        Play.settle(x);
        Due.yes("a blob", x.forget(write));
        Due.no("it went", x.forget(write));
        int xored = Play.write(x, 5);
        x.name(xored, xored, 1);
        Play.stored(x, 6);
        Due.no("another blob", x.forget(xored));
        Due.is("stays", x.count(4), 1);
    }

    @Says("How many: 0, 1 bytes UNDERWAY from the CLIENT, from the SERVER,")
    static void promise21BytesUnderway() {
        FarCacheLine x = new FarCacheLine(8);
        Due.is("none", x.count(0) + x.count(1), 0);
        x.begin(Play.write(x, 5), 9);
        Due.is("from the client", x.count(0), 13);
        x.carry(0, 1);
        Due.is("those that have not arrived", x.count(0), 12);
        x.carry(0, 12);
        Due.is("all have arrived", x.count(0), 0);
        Due.is("from the server", x.count(1), 5);
        x.carry(1, 4);
        Due.is("those that have not arrived", x.count(1), 1);
    }

    @Says("2, 3 FRAMES of which nothing has arrived, likewise,")
    static void promise21FramesOfWhichNothingHasArrived() {
        FarCacheLine x = new FarCacheLine(8);
        x.begin(x.call(Play.TELL, 5), 9);
        x.begin(Play.write(x, 5), 9);
        Due.is("three", x.count(2), 3);
        x.carry(0, 1);
        Due.is("one has arrived in part", x.count(2), 2);
        x.carry(0, 12);
        Due.is("it is whole", x.count(2), 2);
        x.carry(0, 18);
        Due.is("all have arrived", x.count(2), 0);
        Due.is("from the server", x.count(3), 2);
        x.carry(1, 5);
        Due.is("the first one is whole", x.count(3), 1);
        x.carry(1, 1);
        Due.is("the last one has arrived in part", x.count(3), 0);
        Due.is("though bytes are underway", x.count(1), 4);
    }

    @Says("4 BLOBS,")
    static void promise21Blobs() {
        FarCacheLine x = new FarCacheLine(8);
        for (int i = 1; i <= 10; i++) {
            Play.stored(x, 9, i);
            Due.is("blobs", x.count(4), i);
        }
        Play.stored(x, 9, 10);
        Due.is("the same one once more", x.count(4), 10);
        Play.run(x, Play.write(x, 9, 11));
        Due.is("no eleventh one", x.count(4), 10);
        for (int i = 9; i >= 0; i--) {
            x.forget(i);
            Due.is("blobs", x.count(4), i);
        }
    }

    @Says("5 RESULTS,")
    static void promise21Results() {
        FarCacheLine x = new FarCacheLine(8);
        for (int i = 1; i <= 10; i++) {
            Play.run(x, Play.tell(x, i));
            Due.is("results", x.count(5), i);
        }
        Play.run(x, Play.tell(x, 10));
        Due.is("in place of one", x.count(5), 10);
        Play.run(x, Play.tell(x, 11));
        Due.is("no eleventh one", x.count(5), 10);
        FarCacheLine y = new FarCacheLine(8);
        int write = Play.stored(y, 1);
        Play.run(y, Play.tell(y, 1, write));
        y.forget(write);
        Due.is("also those whose blobs are gone", y.count(5), 1);
    }

    @Says("6 how often the LINE broke (not cut()),")
    static void promise21HowOftenTheLineBroke() {
        FarCacheLine x = new FarCacheLine(8);
        x.begin(x.call(Play.ASK, 5), 99);
        for (int i = 1; i <= 3; i++) {
            x.cut(5, 0);
            Due.is("a cut doesn't count", x.count(6), i - 1);
            x.resume(0);
            x.lie(0, i == 1 ? 0 : 5, 128);
            x.carry(0, Play.ALL);
            Due.is("a break at the server", x.count(6), i);
            x.resume(0);
        }
        x.carry(0, Play.ALL);
        x.lie(1, 0, 128);
        x.cut(0, 1);
        Due.is("a break by the bytes that a cut carries", x.count(6), 4);
    }

    @Says("7 how many FRAMES there was no room for (SENT ones, and those that should have come once more),")
    static void promise21FramesThatThereWasNoRoomFor() {
        FarCacheLine x = new FarCacheLine(8);
        int ask = Play.flood(x, 153);
        Due.is("none", x.count(7), 0);
        x.resume(ask);
        Due.is("one that was sent", x.count(7), 1);
        x.twice(0, 0);
        Due.is("one that should have come once more", x.count(7), 2);
        x.twice(0, 153);
        Due.is("not one that isn't there", x.count(7), 2);
        x.cut(0, 0);
        Due.is("they stay", x.count(7), 2);
        x.resume(ask);
        x.carry(0, 13);
        for (int i = 0; i < 333; i++) {
            x.twice(1, 0);
        }
        Due.is("one from the server", x.count(7), 3);
        x.resume(ask);
        x.carry(0, 13);
        Due.is("one that the server sent", x.count(7), 4);
    }

    @Says("8 for how many requests the SERVER is BUSY;")
    static void promise21ForHowManyRequestsTheServerIsBusy() {
        FarCacheLine x = new FarCacheLine(8);
        Due.is("none", x.count(8), 0);
        x.busy(100);
        Due.is("100", x.count(8), 100);
        x.busy(1);
        int ask = x.call(Play.ASK, 1);
        x.begin(ask, 99);
        x.carry(0, 12);
        Due.is("no request is whole", x.count(8), 1);
        x.carry(0, 1);
        Due.is("one less", x.count(8), 0);
        x.resume(ask);
        x.carry(0, 13);
        Due.is("not below 0", x.count(8), 0);
    }

    @Says("NONE for others.")
    static void promise21ThereIsNoSuchCount() {
        FarCacheLine x = Play.forgeable();
        for (int what : Play.outside(0, 8)) {
            Due.is("what " + what, x.count(what), -1);
        }
        Due.is("what 10", x.count(10), -1);
    }
}
