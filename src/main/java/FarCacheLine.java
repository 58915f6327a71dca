/**
 * A far cache over a line: a client and a server that talk in frames of bytes, over two ways on
 * which frames may be carried in part, lost, doubled or changed. The words are the document's.
 *
 * <p>All rows are made with the object and used again, since a run's room is small: no call makes
 * an object, but for the exception that the document asks for.
 */
public final class FarCacheLine {
    public static final int NONE = -1;

    private static final int CLIENT = 0;
    private static final int SERVER = 1;

    private static final int LEAST_PIECE = 8;
    private static final int MOST_PIECE = 40;
    private static final int MOST_CALLS = 30;
    private static final int MOST_ROW = 60;
    private static final int MOST_BLOBS = 10;
    private static final int MOST_RESULTS = 10;
    private static final int MOST_FIND_DIGESTS = 4;
    private static final int MOST_RESULT_DIGESTS = 3;
    private static final int MOST_UNDERWAY = 2000;
    private static final int MOST_BUSY = 100;
    private static final int MOST_DEADLINE = 100000;
    private static final int MOST_TICKS = 1000;
    private static final int MOST_CLOCK = 1000000;
    private static final int MOST_TRIES = 5;

    private static final int NUMBER_BYTES = 8;
    /** Call, kind, place and sum: what a frame's length counts beside its data. */
    private static final int LEAST_LENGTH = 4;
    private static final int DATA_AT = 4;
    private static final int LEAST_FRAME = 5;
    private static final int MOST_FRAMES = MOST_UNDERWAY / LEAST_FRAME;

    private static final int FIND = 0;
    private static final int WRITE = 1;
    private static final int READ = 2;
    private static final int ASK = 3;
    private static final int TELL = 4;

    private static final int FRAME_FIND = 0;
    private static final int FRAME_WRITE = 1;
    private static final int FRAME_READ = 2;
    private static final int FRAME_ASK = 3;
    private static final int FRAME_TELL = 4;
    private static final int FRAME_DIGEST = 5;
    private static final int FRAME_DIGESTS_END = 6;
    private static final int FRAME_PIECE = 7;
    private static final int FRAME_PIECES_END = 8;
    private static final int FRAME_FOUND = 10;
    private static final int FRAME_DONE = 11;
    private static final int FRAME_WANTED = 12;
    private static final int FRAME_ERROR = 13;

    /** What the server makes of a request, beside the reasons of its errors. */
    private static final int NO_VERDICT = -1;
    private static final int FINE = 0;
    private static final int REASON_AGAIN = 1;
    private static final int REASON_NOT_THERE = 2;
    private static final int REASON_DIFFERS = 3;
    private static final int REASON_NO_ROOM = 4;

    private static final int DONE = 1;
    private static final int TOO_LATE = -1;
    private static final int DIFFERS = -3;
    private static final int GAVE_UP = -5;
    private static final int NO_SUCH_CALL = -9;

    private static final int NOT_ANSWERED = 0;
    private static final int ANSWERED_THERE = 1;
    private static final int ANSWERED_MISSING = 2;

    private static final int IN_PART = 0;
    private static final int WHOLE = 1;
    private static final int BROKEN = 2;

    private final Way toServer;
    private final Way toClient;
    private final Inbox atServer;
    private final Inbox atClient;
    private final Client client;
    private final Server server;
    private int breaks;

    public FarCacheLine(int piece) {
        int fitting = Math.max(LEAST_PIECE, Math.min(MOST_PIECE, piece));
        toServer = new Way(fitting);
        toClient = new Way(fitting);
        atServer = new Inbox(fitting);
        atClient = new Inbox(fitting);
        client = new Client(toServer);
        server = new Server(toClient);
    }

    public int call(int kind, long action) {
        return client.makeCall(kind, action);
    }

    public int data(int call, int b) {
        Call told = client.writeAt(call);
        if (told == null || told.begun || !told.row.append(b & 255)) {
            return NONE;
        }
        return told.row.size;
    }

    public int name(int call, int write, long xor) {
        Call namer = client.callAt(call);
        Call told = client.writeAt(write);
        if (namer == null || told == null || namer.begun) {
            return NONE;
        }
        if (namer.kind != WRITE) {
            return namer.addDigest(told.row.digest() ^ xor, namer.mostNamed());
        }
        if (call != write) {
            return NONE;
        }
        namer.xor = xor;
        return 1;
    }

    public boolean begin(int call, int deadline) {
        Call fresh = client.callAt(call);
        if (fresh == null || fresh.begun || deadline < 1 || deadline > MOST_DEADLINE) {
            return false;
        }
        fresh.begun = true;
        fresh.lateAt = client.clock + deadline;
        client.open(fresh);
        return true;
    }

    public int carry(int end, int n) {
        if (!isEnd(end) || n < 0) {
            return NONE;
        }
        return carryFrom(end, n);
    }

    public int cut(int n, int m) {
        if (n < 0 || m < 0) {
            return NONE;
        }
        carryFrom(CLIENT, n);
        carryFrom(SERVER, m);
        int gone = toServer.held + toClient.held;
        clearLine();
        return gone;
    }

    public boolean lose(int end, int i) {
        return isEnd(end) && wayFrom(end).dropFrame(i);
    }

    public boolean twice(int end, int i) {
        return isEnd(end) && wayFrom(end).repeatFrame(i);
    }

    public boolean lie(int end, int k, int mask) {
        return isEnd(end) && wayFrom(end).changeByte(k, mask & 255);
    }

    public int underway(int end, int k) {
        return isEnd(end) ? wayFrom(end).byteAt(k) : NONE;
    }

    public int resume(int call) {
        Call resumed = client.callAt(call);
        if (resumed == null || !resumed.goesOn()) {
            return NONE;
        }
        resumed.waits = false;
        client.open(resumed);
        return resumed.kind == ASK ? 0 : resumed.comeSoFar();
    }

    public int tick(int n) {
        if (n < 0 || n > MOST_TICKS || client.clock + n > MOST_CLOCK) {
            return NONE;
        }
        int target = client.clock + n;
        int late = 0;
        // Ticks in which nothing is due are passed over, since they change no call.
        for (int step = 0; step < n && client.clock < target; step++) {
            client.clock = client.nextDue(target);
            late += client.runTick();
        }
        return late;
    }

    public int end(int call) {
        Call asked = client.callAt(call);
        return asked == null ? NO_SUCH_CALL : asked.outcome;
    }

    public int got(int call, int i) throws ArrayIndexOutOfBoundsException {
        Call read = client.callAt(call);
        if (read == null || read.kind != READ || i < 0 || i >= read.row.size) {
            throw new ArrayIndexOutOfBoundsException("no such byte has come");
        }
        return read.row.bytes[i];
    }

    public long named(int call, int i) {
        Call namer = client.callAt(call);
        return namer == null ? 0L : namer.digestAt(i);
    }

    public int missing(int call, int i) {
        Call find = client.callAt(call);
        return find == null ? NONE : find.missingPlace(i);
    }

    public int about(int call, int what) {
        Call asked = client.callAt(call);
        if (asked == null) {
            return NONE;
        }
        switch (what) {
            case 0:
                return asked.waits ? asked.wakeAt - client.clock : 0;
            case 1:
                return asked.tries;
            case 2:
                return asked.comeSoFar();
            case 3:
                return server.partialSize(call);
            default:
                return NONE;
        }
    }

    public boolean busy(int n) {
        if (n < 0 || n > MOST_BUSY) {
            return false;
        }
        server.busyFor = n;
        return true;
    }

    public boolean forget(int write) {
        Call told = client.writeAt(write);
        return told != null && server.dropBlob(told.row.digest());
    }

    public int count(int what) {
        switch (what) {
            case 0:
                return toServer.held;
            case 1:
                return toClient.held;
            case 2:
                return toServer.untouched();
            case 3:
                return toClient.untouched();
            case 4:
                return server.blobCount();
            case 5:
                return server.resultCount();
            case 6:
                return breaks;
            case 7:
                return toServer.refused + toClient.refused;
            case 8:
                return server.busyFor;
            default:
                return NONE;
        }
    }

    private static boolean isEnd(int end) {
        return end == CLIENT || end == SERVER;
    }

    private Way wayFrom(int end) {
        return end == CLIENT ? toServer : toClient;
    }

    /** What acts on a frame sends the other way only, so the bytes to carry are known ahead. */
    private int carryFrom(int end, int n) {
        Way way = wayFrom(end);
        Inbox inbox = end == CLIENT ? atServer : atClient;
        int all = Math.min(n, way.held);
        for (int carried = 1; carried <= all; carried++) {
            int state = inbox.gather(way.nextByte());
            if (state == BROKEN) {
                breaks++;
                clearLine();
                return carried;
            }
            if (state == WHOLE) {
                if (end == CLIENT) {
                    server.act(inbox);
                } else {
                    client.act(inbox);
                }
                inbox.clear();
            }
        }
        return all;
    }

    private void clearLine() {
        toServer.clear();
        toClient.clear();
        atServer.clear();
        atClient.clear();
    }

    private static int sumOf(int[] bytes, int from, int to) {
        int sum = 0;
        for (int i = from; i < to; i++) {
            sum += bytes[i];
        }
        return sum & 255;
    }

    /** At most 60 bytes: what a write is told, what came to a read, a partial, a blob. */
    private static final class Row {
        final int[] bytes = new int[MOST_ROW];
        int size;

        boolean append(int b) {
            if (size >= MOST_ROW) {
                return false;
            }
            bytes[size] = b;
            size++;
            return true;
        }

        /** A piece comes whole and just at the row's end, or not at all. */
        void appendPiece(Inbox frame) {
            int more = frame.dataSize();
            if (frame.place() != size || size + more > MOST_ROW) {
                return;
            }
            for (int i = 0; i < more; i++) {
                append(frame.dataAt(i));
            }
        }

        void copyOf(Row other) {
            System.arraycopy(other.bytes, 0, bytes, 0, other.size);
            size = other.size;
        }

        long digest() {
            long d = size;
            for (int i = 0; i < size; i++) {
                d = (d ^ bytes[i]) * 0x100000001B3L;
            }
            return d;
        }
    }

    /** The frames underway from one end, told apart as they were sent. */
    private static final class Way {
        final int piece;
        final int[] bytes = new int[MOST_UNDERWAY];
        final int[] frameSizes = new int[MOST_FRAMES];
        final int[] scratch = new int[NUMBER_BYTES];
        int head;
        int held;
        int firstFrame;
        int frames;
        /** How many bytes of the first frame have arrived. */
        int arrived;
        /** How many frames there was no room for. */
        int refused;

        Way(int piece) {
            this.piece = piece;
        }

        void clear() {
            head = 0;
            held = 0;
            firstFrame = 0;
            frames = 0;
            arrived = 0;
        }

        void sendEmpty(int number, int kind, int place) {
            send(number, kind, place, scratch, 0, 0);
        }

        void sendByte(int number, int kind, int place, int b) {
            scratch[0] = b;
            send(number, kind, place, scratch, 0, 1);
        }

        void sendNumber(int number, int kind, int place, long value) {
            for (int i = 0; i < NUMBER_BYTES; i++) {
                scratch[i] = (int) (value >>> (56 - 8 * i)) & 255;
            }
            send(number, kind, place, scratch, 0, NUMBER_BYTES);
        }

        void sendPieces(int number, Row row, int from) {
            for (int at = from; at < row.size; at += piece) {
                send(number, FRAME_PIECE, at, row.bytes, at, Math.min(piece, row.size - at));
            }
            send(number, FRAME_PIECES_END, row.size, row.bytes, 0, 0);
        }

        private void send(int number, int kind, int place, int[] data, int from, int size) {
            int whole = LEAST_FRAME + size;
            if (!makeRoom(whole)) {
                return;
            }
            int start = head + held;
            int sumAt = start + whole - 1;
            bytes[start] = whole - 1;
            bytes[start + 1] = number;
            bytes[start + 2] = kind;
            bytes[start + 3] = place;
            System.arraycopy(data, from, bytes, start + DATA_AT, size);
            bytes[sumAt] = sumOf(bytes, start, sumAt);
            frameSizes[firstFrame + frames] = whole;
            frames++;
            held += whole;
        }

        /** Whether there is room for one frame more, which then fits behind the last one. */
        private boolean makeRoom(int whole) {
            if (held + whole > MOST_UNDERWAY || frames >= MOST_FRAMES) {
                refused++;
                return false;
            }
            if (head + held + whole > MOST_UNDERWAY || firstFrame + frames >= MOST_FRAMES) {
                System.arraycopy(bytes, head, bytes, 0, held);
                System.arraycopy(frameSizes, firstFrame, frameSizes, 0, frames);
                head = 0;
                firstFrame = 0;
            }
            return true;
        }

        int nextByte() {
            if (held < 1 || frames < 1) {
                return NONE;
            }
            int b = bytes[head];
            head++;
            held--;
            arrived++;
            if (arrived >= frameSizes[firstFrame]) {
                firstFrame++;
                frames--;
                arrived = 0;
            }
            return b;
        }

        int untouched() {
            return arrived > 0 ? frames - 1 : frames;
        }

        private boolean isUntouched(int i) {
            return i >= 0 && i < untouched();
        }

        private int frameIndex(int i) {
            return firstFrame + frames - untouched() + i;
        }

        private int startOf(int frame) {
            int start = head - arrived;
            for (int f = firstFrame; f < frame; f++) {
                start += frameSizes[f];
            }
            return start;
        }

        boolean dropFrame(int i) {
            if (!isUntouched(i)) {
                return false;
            }
            int frame = frameIndex(i);
            int start = startOf(frame);
            int size = frameSizes[frame];
            int next = start + size;
            System.arraycopy(bytes, next, bytes, start, head + held - next);
            System.arraycopy(frameSizes, frame + 1, frameSizes, frame, firstFrame + frames - frame - 1);
            held -= size;
            frames--;
            return true;
        }

        /** Moving all from the frame on back by its size leaves it there twice. */
        boolean repeatFrame(int i) {
            if (!isUntouched(i)) {
                return false;
            }
            int size = frameSizes[frameIndex(i)];
            if (!makeRoom(size)) {
                return true;
            }
            // Only now, since making room may have moved the frame.
            int frame = frameIndex(i);
            int start = startOf(frame);
            System.arraycopy(bytes, start, bytes, start + size, head + held - start);
            System.arraycopy(frameSizes, frame, frameSizes, frame + 1, firstFrame + frames - frame);
            held += size;
            frames++;
            return true;
        }

        boolean changeByte(int k, int mask) {
            if (k < 0 || k >= held || mask == 0) {
                return false;
            }
            bytes[head + k] ^= mask;
            return true;
        }

        int byteAt(int k) {
            return k >= 0 && k < held ? bytes[head + k] : NONE;
        }
    }

    /** The bytes gathered at an end, till they are a whole frame. */
    private static final class Inbox {
        final int mostLength;
        final int[] bytes = new int[LEAST_FRAME + MOST_PIECE];
        int size;

        Inbox(int piece) {
            mostLength = LEAST_LENGTH + piece;
        }

        void clear() {
            size = 0;
        }

        int gather(int b) {
            if (size == 0 && (b < LEAST_LENGTH || b > mostLength) || size >= bytes.length) {
                return BROKEN;
            }
            bytes[size] = b;
            size++;
            if (size <= bytes[0]) {
                return IN_PART;
            }
            return bytes[size - 1] == sumOf(bytes, 0, size - 1) ? WHOLE : BROKEN;
        }

        int number() {
            return bytes[1];
        }

        int kind() {
            return bytes[2];
        }

        int place() {
            return bytes[3];
        }

        int dataSize() {
            return bytes[0] - LEAST_LENGTH;
        }

        int dataAt(int i) {
            return i >= 0 && i < dataSize() ? bytes[DATA_AT + i] : 0;
        }

        boolean hasNumber() {
            return dataSize() == NUMBER_BYTES;
        }

        long numberData() {
            long value = 0;
            for (int i = 0; i < NUMBER_BYTES; i++) {
                value = value << 8 | dataAt(i);
            }
            return value;
        }
    }

    /** One call, as the client knows it. */
    private static final class Call {
        final int number;
        int kind;
        long action;
        boolean begun;
        int outcome;
        int lateAt;
        boolean waits;
        int wakeAt;
        int tries;
        /** What a write is told, or what has come to a read. */
        final Row row = new Row();
        /** The digests that are named, or that have come to an ask. */
        final long[] digests = new long[MOST_FIND_DIGESTS];
        int digestCount;
        final int[] answers = new int[MOST_FIND_DIGESTS];
        int answered;
        long xor;

        Call(int number) {
            this.number = number;
        }

        boolean goesOn() {
            return begun && outcome == 0;
        }

        void finish(int how) {
            outcome = how;
            waits = false;
        }

        int mostNamed() {
            switch (kind) {
                case FIND:
                    return MOST_FIND_DIGESTS;
                case READ:
                    return 1;
                case TELL:
                    return MOST_RESULT_DIGESTS;
                default:
                    return 0;
            }
        }

        int addDigest(long digest, int most) {
            if (digestCount >= most || digestCount >= MOST_FIND_DIGESTS) {
                return NONE;
            }
            digests[digestCount] = digest;
            digestCount++;
            return digestCount;
        }

        long digestAt(int i) {
            if (kind == WRITE) {
                return i == 0 ? row.digest() ^ xor : 0L;
            }
            return i >= 0 && i < digestCount ? digests[i] : 0L;
        }

        int comeSoFar() {
            switch (kind) {
                case FIND:
                    return answered;
                case READ:
                    return row.size;
                case ASK:
                    return digestCount;
                default:
                    return 0;
            }
        }

        /** Only a find has answers, so in other calls nothing is missing. */
        int missingPlace(int i) {
            int before = 0;
            for (int place = 0; place < digestCount; place++) {
                if (answers[place] == ANSWERED_MISSING) {
                    if (before == i) {
                        return place;
                    }
                    before++;
                }
            }
            return NONE;
        }

        void takeAnswer(int place, boolean there) {
            if (place < 0 || place >= digestCount || answers[place] != NOT_ANSWERED) {
                return;
            }
            answers[place] = there ? ANSWERED_THERE : ANSWERED_MISSING;
            answered++;
            if (answered == digestCount) {
                finish(DONE);
            }
        }
    }

    /** The calls and their clock; what the client sends goes out on its way. */
    private static final class Client {
        final Way out;
        final Call[] calls = new Call[MOST_CALLS];
        int made;
        int clock;

        Client(Way out) {
            this.out = out;
            for (int i = 0; i < MOST_CALLS; i++) {
                calls[i] = new Call(i);
            }
        }

        int makeCall(int kind, long action) {
            if (made >= MOST_CALLS || kind < FIND || kind > TELL) {
                return NONE;
            }
            calls[made].kind = kind;
            calls[made].action = action;
            made++;
            return made - 1;
        }

        Call callAt(int number) {
            return number >= 0 && number < made ? calls[number] : null;
        }

        Call writeAt(int number) {
            Call found = callAt(number);
            return found != null && found.kind == WRITE ? found : null;
        }

        void open(Call call) {
            switch (call.kind) {
                case FIND:
                    openFind(call);
                    break;
                case WRITE:
                    out.sendNumber(call.number, FRAME_WRITE, 0, call.digestAt(0));
                    break;
                case READ:
                    out.sendNumber(call.number, FRAME_READ, call.row.size, call.digestAt(0));
                    break;
                case ASK:
                    call.digestCount = 0;
                    out.sendNumber(call.number, FRAME_ASK, 0, call.action);
                    break;
                default:
                    openTell(call);
                    break;
            }
        }

        private void openFind(Call find) {
            if (find.digestCount == 0) {
                find.finish(DONE);
            }
            for (int i = 0; i < find.digestCount; i++) {
                if (find.answers[i] == NOT_ANSWERED) {
                    out.sendNumber(find.number, FRAME_FIND, i, find.digests[i]);
                }
            }
        }

        private void openTell(Call tell) {
            out.sendNumber(tell.number, FRAME_TELL, 0, tell.action);
            for (int i = 0; i < tell.digestCount; i++) {
                out.sendNumber(tell.number, FRAME_DIGEST, i, tell.digests[i]);
            }
            out.sendEmpty(tell.number, FRAME_DIGESTS_END, tell.digestCount);
        }

        void act(Inbox frame) {
            Call call = callAt(frame.number());
            if (call == null || !call.goesOn()) {
                return;
            }
            if (frame.kind() == FRAME_ERROR) {
                takeError(call, frame);
                return;
            }
            switch (call.kind) {
                case FIND:
                    actForFind(call, frame);
                    break;
                case WRITE:
                    actForWrite(call, frame);
                    break;
                case READ:
                    actForRead(call, frame);
                    break;
                case ASK:
                    actForAsk(call, frame);
                    break;
                default:
                    actForTell(call, frame);
                    break;
            }
        }

        private void takeError(Call call, Inbox frame) {
            if (frame.dataSize() != 1) {
                return;
            }
            int reason = frame.dataAt(0);
            if (reason == REASON_AGAIN) {
                makeWait(call);
            } else if (reason >= REASON_NOT_THERE && reason <= REASON_NO_ROOM) {
                call.finish(-reason);
            }
        }

        private void makeWait(Call call) {
            call.tries++;
            if (call.tries >= MOST_TRIES) {
                call.finish(GAVE_UP);
                return;
            }
            call.waits = true;
            call.wakeAt = clock + (1 << (call.tries - 1));
        }

        private void actForFind(Call find, Inbox frame) {
            if (frame.kind() == FRAME_FOUND && frame.dataSize() == 1) {
                find.takeAnswer(frame.place(), frame.dataAt(0) != 0);
            }
        }

        private void actForWrite(Call write, Inbox frame) {
            if (frame.kind() == FRAME_DONE) {
                write.finish(DONE);
            } else if (frame.kind() == FRAME_WANTED && frame.place() <= write.row.size) {
                out.sendPieces(write.number, write.row, frame.place());
            }
        }

        private void actForRead(Call read, Inbox frame) {
            if (frame.kind() == FRAME_PIECE) {
                read.row.appendPiece(frame);
            } else if (frame.kind() == FRAME_PIECES_END) {
                if (frame.place() != read.row.size) {
                    makeWait(read);
                } else {
                    read.finish(read.row.digest() == read.digestAt(0) ? DONE : DIFFERS);
                }
            }
        }

        private void actForAsk(Call ask, Inbox frame) {
            if (frame.kind() == FRAME_DIGEST) {
                if (frame.hasNumber() && frame.place() == ask.digestCount) {
                    ask.addDigest(frame.numberData(), MOST_RESULT_DIGESTS);
                }
            } else if (frame.kind() == FRAME_DIGESTS_END) {
                if (frame.place() != ask.digestCount) {
                    makeWait(ask);
                } else {
                    ask.finish(DONE);
                }
            }
        }

        private void actForTell(Call tell, Inbox frame) {
            if (frame.kind() == FRAME_DONE) {
                tell.finish(DONE);
            }
        }

        int nextDue(int target) {
            int next = target;
            for (int i = 0; i < made; i++) {
                Call call = calls[i];
                if (call.goesOn()) {
                    next = Math.min(next, call.lateAt);
                    if (call.waits) {
                        next = Math.min(next, call.wakeAt);
                    }
                }
            }
            return next;
        }

        int runTick() {
            int late = 0;
            for (int i = 0; i < made; i++) {
                Call call = calls[i];
                if (call.goesOn()) {
                    if (clock >= call.lateAt) {
                        call.finish(TOO_LATE);
                        late++;
                    } else if (call.waits && clock >= call.wakeAt) {
                        call.waits = false;
                        open(call);
                    }
                }
            }
            return late;
        }
    }

    /** A blob or a partial: a row of bytes with the digest that it was announced by. */
    private static final class Content {
        final Row row = new Row();
        long digest;
        boolean there;
    }

    /** A result or a note: an action with the digests that it names. */
    private static final class Pledge {
        final long[] digests = new long[MOST_RESULT_DIGESTS];
        long action;
        int size;
        boolean there;

        void start(long ofAction) {
            there = true;
            action = ofAction;
            size = 0;
        }

        void addDigest(int place, long digest) {
            if (there && place == size && size < MOST_RESULT_DIGESTS) {
                digests[size] = digest;
                size++;
            }
        }

        void copyOf(Pledge other) {
            System.arraycopy(other.digests, 0, digests, 0, MOST_RESULT_DIGESTS);
            action = other.action;
            size = other.size;
            there = true;
        }
    }

    /** The server's contents; what it answers goes out on its way. */
    private static final class Server {
        final Way out;
        final Content[] blobs = new Content[MOST_BLOBS];
        final Pledge[] results = new Pledge[MOST_RESULTS];
        final Content[] partials = new Content[MOST_CALLS];
        final Pledge[] notes = new Pledge[MOST_CALLS];
        int busyFor;

        Server(Way out) {
            this.out = out;
            for (int i = 0; i < MOST_BLOBS; i++) {
                blobs[i] = new Content();
            }
            for (int i = 0; i < MOST_RESULTS; i++) {
                results[i] = new Pledge();
            }
            for (int i = 0; i < MOST_CALLS; i++) {
                partials[i] = new Content();
                notes[i] = new Pledge();
            }
        }

        int blobCount() {
            int there = 0;
            for (int i = 0; i < MOST_BLOBS; i++) {
                there += blobs[i].there ? 1 : 0;
            }
            return there;
        }

        int resultCount() {
            int there = 0;
            for (int i = 0; i < MOST_RESULTS; i++) {
                there += results[i].there ? 1 : 0;
            }
            return there;
        }

        int partialSize(int number) {
            if (number < 0 || number >= MOST_CALLS || !partials[number].there) {
                return NONE;
            }
            return partials[number].row.size;
        }

        boolean dropBlob(long digest) {
            Content blob = blobOf(digest);
            if (blob == null) {
                return false;
            }
            blob.there = false;
            return true;
        }

        private Content blobOf(long digest) {
            for (int i = 0; i < MOST_BLOBS; i++) {
                if (blobs[i].there && blobs[i].digest == digest) {
                    return blobs[i];
                }
            }
            return null;
        }

        private Content freeBlob() {
            for (int i = 0; i < MOST_BLOBS; i++) {
                if (!blobs[i].there) {
                    return blobs[i];
                }
            }
            return null;
        }

        private Pledge resultOf(long action) {
            for (int i = 0; i < MOST_RESULTS; i++) {
                if (results[i].there && results[i].action == action) {
                    return results[i];
                }
            }
            return null;
        }

        private Pledge freeResult() {
            for (int i = 0; i < MOST_RESULTS; i++) {
                if (!results[i].there) {
                    return results[i];
                }
            }
            return null;
        }

        void act(Inbox frame) {
            int number = frame.number();
            if (number < 0 || number >= MOST_CALLS) {
                return;
            }
            if (frame.kind() <= FRAME_DIGEST && !frame.hasNumber()) {
                return;
            }
            switch (frame.kind()) {
                case FRAME_FIND:
                    answerFind(number, frame.numberData(), frame.place());
                    break;
                case FRAME_WRITE:
                    sendVerdict(number, startWrite(number, frame.numberData()));
                    break;
                case FRAME_READ:
                    sendVerdict(number, answerRead(number, frame.numberData(), frame.place()));
                    break;
                case FRAME_ASK:
                    sendVerdict(number, answerAsk(number, frame.numberData()));
                    break;
                case FRAME_TELL:
                    notes[number].start(frame.numberData());
                    break;
                case FRAME_DIGEST:
                    notes[number].addDigest(frame.place(), frame.numberData());
                    break;
                case FRAME_DIGESTS_END:
                    sendVerdict(number, finishTell(notes[number], frame.place()));
                    break;
                case FRAME_PIECE:
                    takePiece(partials[number], frame);
                    break;
                case FRAME_PIECES_END:
                    sendVerdict(number, finishWrite(partials[number], frame.place()));
                    break;
                default:
                    break;
            }
        }

        private void sendVerdict(int number, int verdict) {
            if (verdict == FINE) {
                out.sendEmpty(number, FRAME_DONE, 0);
            } else if (verdict != NO_VERDICT) {
                out.sendByte(number, FRAME_ERROR, 0, verdict);
            }
        }

        /** Whether the server is busy; each request that it is asked for makes it less so. */
        private boolean putsOff() {
            if (busyFor < 1) {
                return false;
            }
            busyFor--;
            return true;
        }

        private void answerFind(int number, long digest, int place) {
            out.sendByte(number, FRAME_FOUND, place, blobOf(digest) == null ? 0 : 1);
        }

        private int startWrite(int number, long digest) {
            Content partial = partials[number];
            if (blobOf(digest) != null) {
                partial.there = false;
                return FINE;
            }
            // A partial that is there keeps the digest that made it, whatever this one is.
            if (!partial.there) {
                partial.there = true;
                partial.digest = digest;
                partial.row.size = 0;
            }
            out.sendEmpty(number, FRAME_WANTED, partial.row.size);
            return NO_VERDICT;
        }

        private void takePiece(Content partial, Inbox frame) {
            if (partial.there) {
                partial.row.appendPiece(frame);
            }
        }

        private int finishWrite(Content partial, int place) {
            if (!partial.there) {
                return NO_VERDICT;
            }
            if (putsOff() || partial.row.size != place) {
                return REASON_AGAIN;
            }
            partial.there = false;
            if (partial.row.digest() != partial.digest) {
                return REASON_DIFFERS;
            }
            return blobOf(partial.digest) != null ? FINE : keepBlob(partial);
        }

        private int keepBlob(Content partial) {
            Content blob = freeBlob();
            if (blob == null) {
                return REASON_NO_ROOM;
            }
            blob.there = true;
            blob.digest = partial.digest;
            blob.row.copyOf(partial.row);
            return FINE;
        }

        private int answerRead(int number, long digest, int place) {
            if (putsOff()) {
                return REASON_AGAIN;
            }
            Content blob = blobOf(digest);
            if (blob == null) {
                return REASON_NOT_THERE;
            }
            out.sendPieces(number, blob.row, place);
            return NO_VERDICT;
        }

        private int answerAsk(int number, long action) {
            if (putsOff()) {
                return REASON_AGAIN;
            }
            Pledge result = resultOf(action);
            if (result == null || !hasAllBlobs(result)) {
                return REASON_NOT_THERE;
            }
            for (int i = 0; i < result.size; i++) {
                out.sendNumber(number, FRAME_DIGEST, i, result.digests[i]);
            }
            out.sendEmpty(number, FRAME_DIGESTS_END, result.size);
            return NO_VERDICT;
        }

        private boolean hasAllBlobs(Pledge result) {
            for (int i = 0; i < result.size; i++) {
                if (blobOf(result.digests[i]) == null) {
                    return false;
                }
            }
            return true;
        }

        private int finishTell(Pledge note, int place) {
            if (!note.there) {
                return NO_VERDICT;
            }
            if (putsOff() || note.size != place) {
                return REASON_AGAIN;
            }
            note.there = false;
            Pledge same = resultOf(note.action);
            Pledge result = same != null ? same : freeResult();
            if (result == null) {
                return REASON_NO_ROOM;
            }
            result.copyOf(note);
            return FINE;
        }
    }
}
