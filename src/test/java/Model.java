import java.util.ArrayDeque;
import java.util.ArrayList;
import java.util.Arrays;
import java.util.HashMap;
import java.util.LinkedHashMap;
import java.util.List;
import java.util.Map;

/**
 * The document once more, written for plainness alone with the library's lists and maps: what the
 * program answers in long random runs is held against it.
 */
final class Model {
    /** A frame as it was sent; of the first one of a way the front may be gone. */
    private static final class Sent {
        final List<Integer> bytes = new ArrayList<>();
        boolean touched;
    }

    private static final class Job {
        int kind;
        long action;
        boolean begun;
        int end;
        long deadline;
        int tries;
        Long wake;
        long xor;
        List<Integer> bytes = new ArrayList<>();
        List<Long> digests = new ArrayList<>();
        Map<Integer, Boolean> answers = new HashMap<>();

        boolean goesOn() {
            return begun && end == 0;
        }
    }

    private static final class Partial {
        long digest;
        List<Integer> bytes = new ArrayList<>();
    }

    private static final class Note {
        long action;
        List<Long> digests = new ArrayList<>();
    }

    private final int piece;
    private final List<ArrayDeque<Sent>> ways = List.of(new ArrayDeque<>(), new ArrayDeque<>());
    private final List<List<Integer>> gathered = List.of(new ArrayList<>(), new ArrayList<>());
    private final List<Job> jobs = new ArrayList<>();
    private final Map<Long, List<Integer>> blobs = new LinkedHashMap<>();
    private final Map<Long, List<Long>> results = new LinkedHashMap<>();
    private final Map<Integer, Partial> partials = new HashMap<>();
    private final Map<Integer, Note> notes = new HashMap<>();
    private int busy;
    private int breaks;
    private int withoutRoom;
    private long clock;

    Model(int piece) {
        this.piece = piece < 8 ? 8 : piece > 40 ? 40 : piece;
    }

    private static long digest(List<Integer> row) {
        long d = row.size();
        for (int b : row) {
            d = (d ^ b) * 0x100000001B3L;
        }
        return d;
    }

    private Job job(int call) {
        return call < 0 || call >= jobs.size() ? null : jobs.get(call);
    }

    private Job write(int call) {
        Job job = job(call);
        return job == null || job.kind != 1 ? null : job;
    }

    int call(int kind, long action) {
        if (jobs.size() == 30 || kind < 0 || kind > 4) {
            return -1;
        }
        Job job = new Job();
        job.kind = kind;
        job.action = action;
        jobs.add(job);
        return jobs.size() - 1;
    }

    int data(int call, int b) {
        Job job = write(call);
        if (job == null || job.begun || job.bytes.size() == 60) {
            return -1;
        }
        job.bytes.add(b & 255);
        return job.bytes.size();
    }

    int name(int call, int write, long xor) {
        Job job = job(call);
        Job other = write(write);
        if (job == null || other == null || job.begun || job.kind == 3) {
            return -1;
        }
        if (job.kind == 1) {
            if (job != other) {
                return -1;
            }
            job.xor = xor;
            return 1;
        }
        int most = job.kind == 0 ? 4 : job.kind == 2 ? 1 : 3;
        if (job.digests.size() == most) {
            return -1;
        }
        job.digests.add(digest(other.bytes) ^ xor);
        return job.digests.size();
    }

    boolean begin(int call, int deadline) {
        Job job = job(call);
        if (job == null || job.begun || deadline < 1 || deadline > 100000) {
            return false;
        }
        job.begun = true;
        job.deadline = clock + deadline;
        open(call);
        return true;
    }

    private int bytesUnderway(int end) {
        return ways.get(end).stream().mapToInt(sent -> sent.bytes.size()).sum();
    }

    private static List<Integer> eight(long value) {
        List<Integer> bytes = new ArrayList<>();
        for (int shift = 56; shift >= 0; shift -= 8) {
            bytes.add((int) (value >> shift & 255));
        }
        return bytes;
    }

    private void send(int end, int number, int kind, int place, List<Integer> data) {
        Sent sent = new Sent();
        sent.bytes.addAll(Arrays.asList(4 + data.size(), number, kind, place));
        sent.bytes.addAll(data);
        sent.bytes.add(sent.bytes.stream().mapToInt(b -> b).sum() % 256);
        if (bytesUnderway(end) + sent.bytes.size() > 2000) {
            withoutRoom++;
        } else {
            ways.get(end).addLast(sent);
        }
    }

    private void sendInPieces(int end, int number, List<Integer> row, int place) {
        int at = place;
        while (at < row.size()) {
            int to = Math.min(at + piece, row.size());
            send(end, number, 7, at, row.subList(at, to));
            at = to;
        }
        send(end, number, 8, row.size(), List.of());
    }

    private void open(int call) {
        Job job = jobs.get(call);
        if (job.kind == 0) {
            for (int i = 0; i < job.digests.size(); i++) {
                if (!job.answers.containsKey(i)) {
                    send(0, call, 0, i, eight(job.digests.get(i)));
                }
            }
            if (job.digests.isEmpty()) {
                job.end = 1;
            }
        } else if (job.kind == 1) {
            send(0, call, 1, 0, eight(digest(job.bytes) ^ job.xor));
        } else if (job.kind == 2) {
            send(0, call, 2, job.bytes.size(), eight(job.digests.isEmpty() ? 0 : job.digests.get(0)));
        } else if (job.kind == 3) {
            job.digests.clear();
            send(0, call, 3, 0, eight(job.action));
        } else {
            send(0, call, 4, 0, eight(job.action));
            for (int i = 0; i < job.digests.size(); i++) {
                send(0, call, 5, i, eight(job.digests.get(i)));
            }
            send(0, call, 6, job.digests.size(), List.of());
        }
    }

    int carry(int end, int n) {
        if (end != 0 && end != 1 || n < 0) {
            return -1;
        }
        int arrived = 0;
        ArrayDeque<Sent> way = ways.get(end);
        List<Integer> there = gathered.get(end);
        while (arrived < n && !way.isEmpty()) {
            Sent first = way.peekFirst();
            int b = first.bytes.remove(0);
            first.touched = true;
            if (first.bytes.isEmpty()) {
                way.removeFirst();
            }
            arrived++;
            there.add(b);
            int length = there.get(0);
            if (length < 4 || length > 4 + piece) {
                breaks++;
                clear();
                return arrived;
            }
            if (there.size() == length + 1) {
                int sum = there.subList(0, length).stream().mapToInt(i -> i).sum();
                if (sum % 256 != there.get(length)) {
                    breaks++;
                    clear();
                    return arrived;
                }
                List<Integer> data = new ArrayList<>(there.subList(4, length));
                int number = there.get(1);
                int kind = there.get(2);
                int place = there.get(3);
                there.clear();
                if (number < 30 && end == 0) {
                    serverActs(number, kind, place, data);
                } else if (number < 30) {
                    clientActs(number, kind, place, data);
                }
            }
        }
        return arrived;
    }

    private void clear() {
        for (int end = 0; end < 2; end++) {
            ways.get(end).clear();
            gathered.get(end).clear();
        }
    }

    private static long value(List<Integer> data) {
        long value = 0;
        for (int b : data) {
            value = value * 256 + b;
        }
        return value;
    }

    private void error(int number, int reason) {
        send(1, number, 13, 0, List.of(reason));
    }

    private boolean isBusy(int number) {
        if (busy == 0) {
            return false;
        }
        busy--;
        error(number, 1);
        return true;
    }

    private void serverActs(int number, int kind, int place, List<Integer> data) {
        if (kind <= 5 && data.size() != 8) {
            return;
        }
        long value = kind <= 5 ? value(data) : 0;
        if (kind == 0) {
            send(1, number, 10, place, List.of(blobs.containsKey(value) ? 1 : 0));
        }
        if (kind == 1 && blobs.containsKey(value)) {
            partials.remove(number);
            send(1, number, 11, 0, List.of());
        } else if (kind == 1) {
            if (!partials.containsKey(number)) {
                Partial partial = new Partial();
                partial.digest = value;
                partials.put(number, partial);
            }
            send(1, number, 12, partials.get(number).bytes.size(), List.of());
        }
        if (kind == 2 && !isBusy(number)) {
            if (blobs.containsKey(value)) {
                sendInPieces(1, number, blobs.get(value), place);
            } else {
                error(number, 2);
            }
        }
        if (kind == 3 && !isBusy(number)) {
            List<Long> result = results.get(value);
            if (result == null || !blobs.keySet().containsAll(result)) {
                error(number, 2);
            } else {
                for (int i = 0; i < result.size(); i++) {
                    send(1, number, 5, i, eight(result.get(i)));
                }
                send(1, number, 6, result.size(), List.of());
            }
        }
        if (kind == 4) {
            Note note = new Note();
            note.action = value;
            notes.put(number, note);
        }
        Note note = notes.get(number);
        if (kind == 5 && note != null && note.digests.size() == place && place < 3) {
            note.digests.add(value);
        }
        if (kind == 6 && note != null && !isBusy(number)) {
            endOfTell(number, place, note);
        }
        Partial partial = partials.get(number);
        if (kind == 7 && partial != null && partial.bytes.size() == place && place + data.size() <= 60) {
            partial.bytes.addAll(data);
        }
        if (kind == 8 && partial != null && !isBusy(number)) {
            endOfWrite(number, place, partial);
        }
    }

    private void endOfTell(int number, int place, Note note) {
        if (note.digests.size() != place) {
            error(number, 1);
            return;
        }
        notes.remove(number);
        if (!results.containsKey(note.action) && results.size() == 10) {
            error(number, 4);
            return;
        }
        results.put(note.action, note.digests);
        send(1, number, 11, 0, List.of());
    }

    private void endOfWrite(int number, int place, Partial partial) {
        if (partial.bytes.size() != place) {
            error(number, 1);
            return;
        }
        partials.remove(number);
        long digest = digest(partial.bytes);
        if (digest != partial.digest) {
            error(number, 3);
        } else if (!blobs.containsKey(digest) && blobs.size() == 10) {
            error(number, 4);
        } else {
            blobs.putIfAbsent(digest, partial.bytes);
            send(1, number, 11, 0, List.of());
        }
    }

    private void end(Job job, int how) {
        job.end = how;
        job.wake = null;
    }

    private void waits(Job job) {
        job.tries++;
        if (job.tries == 5) {
            end(job, -5);
        } else {
            job.wake = clock + new int[] {0, 1, 2, 4, 8}[job.tries];
        }
    }

    private void clientActs(int number, int kind, int place, List<Integer> data) {
        Job job = job(number);
        if (job == null || !job.goesOn()) {
            return;
        }
        if (kind == 10 && job.kind == 0 && data.size() == 1 && place < job.digests.size()) {
            job.answers.putIfAbsent(place, data.get(0) != 0);
            if (job.answers.size() == job.digests.size()) {
                end(job, 1);
            }
        } else if (kind == 11 && (job.kind == 1 || job.kind == 4)) {
            end(job, 1);
        } else if (kind == 12 && job.kind == 1 && place <= job.bytes.size()) {
            sendInPieces(0, number, job.bytes, place);
        } else if (kind == 7 && job.kind == 2 && place == job.bytes.size() && place + data.size() <= 60) {
            job.bytes.addAll(data);
        } else if (kind == 8 && job.kind == 2 && place == job.bytes.size()) {
            end(job, digest(job.bytes) == (job.digests.isEmpty() ? 0 : job.digests.get(0)) ? 1 : -3);
        } else if (kind == 8 && job.kind == 2) {
            waits(job);
        } else if (kind == 5 && job.kind == 3 && data.size() == 8 && place == job.digests.size() && place < 3) {
            job.digests.add(value(data));
        } else if (kind == 6 && job.kind == 3 && place == job.digests.size()) {
            end(job, 1);
        } else if (kind == 6 && job.kind == 3) {
            waits(job);
        } else if (kind == 13 && data.size() == 1 && data.get(0) == 1) {
            waits(job);
        } else if (kind == 13 && data.size() == 1 && data.get(0) >= 2 && data.get(0) <= 4) {
            end(job, -data.get(0));
        }
    }

    int cut(int n, int m) {
        if (n < 0 || m < 0) {
            return -1;
        }
        carry(0, n);
        carry(1, m);
        int gone = bytesUnderway(0) + bytesUnderway(1);
        clear();
        return gone;
    }

    private List<Sent> untouched(int end) {
        return ways.get(end).stream().filter(sent -> !sent.touched).toList();
    }

    private boolean hasUntouched(int end, int i) {
        return (end == 0 || end == 1) && i >= 0 && i < untouched(end).size();
    }

    boolean lose(int end, int i) {
        if (!hasUntouched(end, i)) {
            return false;
        }
        Sent lost = untouched(end).get(i);
        ways.get(end).removeIf(sent -> sent == lost);
        return true;
    }

    boolean twice(int end, int i) {
        if (!hasUntouched(end, i)) {
            return false;
        }
        Sent doubled = untouched(end).get(i);
        if (bytesUnderway(end) + doubled.bytes.size() > 2000) {
            withoutRoom++;
            return true;
        }
        Sent copy = new Sent();
        copy.bytes.addAll(doubled.bytes);
        List<Sent> all = new ArrayList<>(ways.get(end));
        all.add(all.indexOf(doubled) + 1, copy);
        ways.get(end).clear();
        ways.get(end).addAll(all);
        return true;
    }

    boolean lie(int end, int k, int mask) {
        if (underway(end, k) == -1 || mask % 256 == 0) {
            return false;
        }
        int left = k;
        for (Sent sent : ways.get(end)) {
            if (left >= 0 && left < sent.bytes.size()) {
                sent.bytes.set(left, (sent.bytes.get(left) ^ mask) & 255);
            }
            left -= sent.bytes.size();
        }
        return true;
    }

    /** All bytes underway from an end. */
    List<Integer> line(int end) {
        List<Integer> all = new ArrayList<>();
        ways.get(end).forEach(sent -> all.addAll(sent.bytes));
        return all;
    }

    int underway(int end, int k) {
        if (end != 0 && end != 1) {
            return -1;
        }
        List<Integer> all = line(end);
        return k < 0 || k >= all.size() ? -1 : all.get(k);
    }

    int resume(int call) {
        Job job = job(call);
        if (job == null || !job.goesOn()) {
            return -1;
        }
        job.wake = null;
        open(call);
        return job.kind == 2 ? job.bytes.size() : job.kind == 0 ? job.answers.size() : 0;
    }

    int tick(int n) {
        if (n < 0 || n > 1000 || clock + n > 1000000) {
            return -1;
        }
        int late = 0;
        for (int t = 0; t < n; t++) {
            clock++;
            for (int call = 0; call < jobs.size(); call++) {
                Job job = jobs.get(call);
                if (job.goesOn() && clock >= job.deadline) {
                    end(job, -1);
                    late++;
                } else if (job.goesOn() && job.wake != null && clock >= job.wake) {
                    job.wake = null;
                    open(call);
                }
            }
        }
        return late;
    }

    int end(int call) {
        return job(call) == null ? -9 : job(call).end;
    }

    /** The byte, or - 2 where the call should throw. */
    int got(int call, int i) {
        Job job = job(call);
        return job == null || job.kind != 2 || i < 0 || i >= job.bytes.size() ? -2 : job.bytes.get(i);
    }

    long named(int call, int i) {
        Job job = job(call);
        if (job == null) {
            return 0;
        }
        if (job.kind == 1) {
            return i == 0 ? digest(job.bytes) ^ job.xor : 0;
        }
        return i < 0 || i >= job.digests.size() ? 0 : job.digests.get(i);
    }

    int missing(int call, int i) {
        Job job = job(call);
        if (job == null || job.kind != 0) {
            return -1;
        }
        List<Integer> missing = job.answers.keySet().stream().filter(p -> !job.answers.get(p)).sorted().toList();
        return i < 0 || i >= missing.size() ? -1 : missing.get(i);
    }

    int about(int call, int what) {
        Job job = job(call);
        if (job == null || what < 0 || what > 3) {
            return -1;
        }
        if (what == 0) {
            return job.wake == null ? 0 : (int) (job.wake - clock);
        }
        if (what == 1) {
            return job.tries;
        }
        if (what == 3) {
            return partials.containsKey(call) ? partials.get(call).bytes.size() : -1;
        }
        return switch (job.kind) {
            case 0 -> job.answers.size();
            case 2 -> job.bytes.size();
            case 3 -> job.digests.size();
            default -> 0;
        };
    }

    boolean busy(int n) {
        if (n < 0 || n > 100) {
            return false;
        }
        busy = n;
        return true;
    }

    boolean forget(int write) {
        Job job = write(write);
        return job != null && blobs.remove(digest(job.bytes)) != null;
    }

    int count(int what) {
        return switch (what) {
            case 0, 1 -> bytesUnderway(what);
            case 2, 3 -> untouched(what - 2).size();
            case 4 -> blobs.size();
            case 5 -> results.size();
            case 6 -> breaks;
            case 7 -> withoutRoom;
            case 8 -> busy;
            default -> -1;
        };
    }

    int calls() {
        return jobs.size();
    }

    /** Where the i-th frame of which nothing has arrived begins, among the bytes underway. */
    int startOf(int end, int i) {
        Sent wanted = untouched(end).get(i);
        int start = 0;
        for (Sent sent : ways.get(end)) {
            if (sent == wanted) {
                return start;
            }
            start += sent.bytes.size();
        }
        return -1;
    }

    int sizeOf(int end, int i) {
        return untouched(end).get(i).bytes.size();
    }
}
