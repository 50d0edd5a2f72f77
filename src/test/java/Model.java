import java.util.ArrayDeque;
import java.util.ArrayList;
import java.util.Deque;
import java.util.HashSet;
import java.util.List;
import java.util.Set;
import java.util.SortedMap;
import java.util.TreeMap;
import java.util.TreeSet;

/** The document told a second time with the library's collections, to be compared with AppDesk call by call. */
final class Model {
    private record Part(int action, boolean open, int guard, int place) {
    }

    private record Intent(int sender, int action, int value) {
    }

    private static final class Bundle {
        int name;
        int version;
        int signer;
        int seal;
        Set<Integer> asked = new TreeSet<>();
        SortedMap<Integer, Integer> declared = new TreeMap<>();
        List<Part> parts = new ArrayList<>();
        List<Integer> words = new ArrayList<>();

        Bundle(int name, int version, int signer) {
            this.name = name;
            this.version = version;
            this.signer = signer;
        }

        Bundle copy() {
            Bundle copy = new Bundle(name, version, signer);
            copy.asked.addAll(asked);
            copy.declared.putAll(declared);
            copy.parts.addAll(parts);
            copy.words.addAll(words);
            return copy;
        }

        int rightSeal() {
            List<Integer> numbers = new ArrayList<>(List.of(name, version));
            numbers.add(asked.stream().mapToInt(p -> 1 << p).sum());
            declared.forEach((permission, level) -> numbers.add(10 * permission + level));
            for (Part part : parts) {
                numbers.addAll(List.of(part.action, part.open ? 1 : 0, part.guard, part.place));
            }
            numbers.addAll(words);
            return Words.seal(signer, numbers.stream().mapToInt(x -> x).toArray());
        }
    }

    private static final class Installed {
        Bundle bundle;
        final Set<Integer> granted = new TreeSet<>();
        final SortedMap<Integer, Integer> kept = new TreeMap<>();
        boolean runs;
        int place;
        Deque<Integer> stack = new ArrayDeque<>();
        int[] locals = new int[4];
    }

    private Bundle draft = new Bundle(0, 1, 0);
    private final SortedMap<Integer, Installed> apps = new TreeMap<>();
    private final Deque<Intent> queue = new ArrayDeque<>();
    private int lastStep = -1;

    private static boolean in(int x, int from, int to) {
        return from <= x && x <= to;
    }

    boolean draft(int name, int version, int signer) {
        boolean fine = in(name, 0, 7) && in(signer, 0, 3) && version >= 1;
        if (fine) {
            draft = new Bundle(name, version, signer);
        }
        return fine;
    }

    boolean word(int w) {
        return draft.words.size() < 24 && draft.words.add(w);
    }

    boolean part(int action, boolean open, int guard, int place) {
        return draft.parts.size() < 4 && in(action, 0, 9) && in(guard, -1, 7)
            && draft.parts.add(new Part(action, open, guard, place));
    }

    boolean ask(int permission) {
        return in(permission, 0, 7) && draft.asked.add(permission);
    }

    boolean declare(int permission, int level) {
        return in(permission, 0, 7) && in(level, 0, 2) && draft.declared.putIfAbsent(permission, level) == null;
    }

    int sign() {
        draft.seal = draft.rightSeal();
        return draft.seal;
    }

    void seal(int seal) {
        draft.seal = seal;
    }

    /** The draft's name, -100 for IllegalArgumentException, -200 for IllegalStateException. */
    int install() {
        if (draft.parts.isEmpty() || draft.words.isEmpty() || draft.seal != draft.rightSeal() || !isGood(draft)) {
            return -100;
        }
        Installed app = apps.get(draft.name);
        if (app != null && (app.bundle.signer != draft.signer || app.bundle.version >= draft.version)) {
            return -200;
        }
        for (var other : apps.entrySet()) {
            Set<Integer> both = new TreeSet<>(other.getValue().bundle.declared.keySet());
            both.retainAll(draft.declared.keySet());
            if (other.getKey() != draft.name && !both.isEmpty()) {
                return -200;
            }
        }
        app = apps.computeIfAbsent(draft.name, name -> new Installed());
        app.bundle = draft.copy();
        app.granted.retainAll(draft.asked);
        app.runs = false;
        return draft.name;
    }

    /** Walks every pair of a place and a height that can be reached. */
    private static boolean isGood(Bundle bundle) {
        Set<List<Integer>> seen = new HashSet<>();
        Deque<List<Integer>> open = new ArrayDeque<>();
        bundle.parts.forEach(part -> open.add(List.of(part.place, 0)));
        while (!open.isEmpty()) {
            List<Integer> pair = open.pop();
            if (!seen.add(pair)) {
                continue;
            }
            int place = pair.get(0);
            if (!in(place, 0, bundle.words.size() - 1)) {
                return false;
            }
            int w = bundle.words.get(place);
            int after = heightAfter(w, pair.get(1));
            if (!in(after, 0, 6)) {
                return false;
            }
            int operation = Math.floorMod(w, 16);
            if (operation == 8 || operation == 9) {
                open.add(List.of(place + Math.floorDiv(w, 16), after));
            }
            if (operation != 0 && operation != 8) {
                open.add(List.of(place + 1, after));
            }
        }
        return seen.stream().map(pair -> pair.get(0)).distinct().count() == seen.size();
    }

    /** The height after a word, or -1 if the word may not stand there. */
    private static int heightAfter(int w, int height) {
        int n = Math.floorDiv(w, 16);
        return switch (Math.floorMod(w, 16)) {
            case 0, 8 -> height;
            case 1 -> height + 1;
            case 2, 3 -> height < 2 ? -1 : height - 1;
            case 4 -> height < 1 ? -1 : height + 1;
            case 5, 9 -> height - 1;
            case 6 -> in(n, 0, 3) ? height + 1 : -1;
            case 7 -> in(n, 0, 3) ? height - 1 : -1;
            case 10 -> height < 1 ? -1 : height;
            case 11, 12 -> height < 2 ? -1 : height - 2;
            case 13 -> in(n, 0, 7) ? height + 1 : -1;
            default -> -1;
        };
    }

    boolean remove(int name) {
        queue.removeIf(intent -> intent.sender == name);
        return apps.remove(name) != null;
    }

    boolean grant(int name, int permission) {
        Installed app = apps.get(name);
        return app != null && app.bundle.asked.contains(permission) && app.granted.add(permission);
    }

    boolean revoke(int name, int permission) {
        Installed app = apps.get(name);
        return app != null && app.granted.remove(permission);
    }

    boolean send(int name, int action, int value) {
        return apps.containsKey(name) && in(action, 0, 9) && queue.size() < 8
            && queue.add(new Intent(name, action, value));
    }

    int deliver() {
        Intent intent = queue.poll();
        if (intent == null) {
            return -1;
        }
        for (var entry : apps.entrySet()) {
            Installed app = entry.getValue();
            for (Part part : app.bundle.parts) {
                if (!app.runs && part.action == intent.action
                    && (part.open || entry.getKey() == intent.sender)
                    && (part.guard == -1 || holds(intent.sender, part.guard))) {
                    app.runs = true;
                    app.place = part.place;
                    app.stack = new ArrayDeque<>();
                    app.locals = new int[] {intent.value, intent.sender, 0, 0};
                    return entry.getKey();
                }
            }
        }
        return -1;
    }

    /** The name, -1 for none, -200 for IllegalStateException. */
    int step() {
        List<Integer> running = apps.keySet().stream().filter(name -> apps.get(name).runs).toList();
        if (running.isEmpty()) {
            return -1;
        }
        int name = running.stream().filter(other -> other > lastStep).findFirst().orElse(running.get(0));
        lastStep = name;
        Installed app = apps.get(name);
        if (fails(app)) {
            app.runs = false;
            return -200;
        }
        doWord(name, app);
        return name;
    }

    private static boolean fails(Installed app) {
        List<Integer> stack = new ArrayList<>(app.stack);
        return switch (Math.floorMod(app.bundle.words.get(app.place), 16)) {
            case 10 -> !in(stack.get(0), 0, 7);
            case 11 -> !in(stack.get(1), 0, 7) || (app.kept.size() == 3 && !app.kept.containsKey(stack.get(1)));
            case 12 -> !in(stack.get(1), 0, 9);
            default -> false;
        };
    }

    private void doWord(int name, Installed app) {
        int w = app.bundle.words.get(app.place);
        int n = Math.floorDiv(w, 16);
        Deque<Integer> s = app.stack;
        int next = app.place + 1;
        switch (Math.floorMod(w, 16)) {
            case 0 -> app.runs = false;
            case 1 -> s.push(n);
            case 2 -> s.push(s.pop() + s.pop());
            case 3 -> {
                int upper = s.pop();
                int lower = s.pop();
                s.push(lower - upper);
            }
            case 4 -> s.push(s.peek());
            case 5 -> s.pop();
            case 6 -> s.push(app.locals[n]);
            case 7 -> app.locals[n] = s.pop();
            case 8 -> next = app.place + n;
            case 9 -> next = s.pop() == 0 ? app.place + n : next;
            case 10 -> s.push(app.kept.getOrDefault(s.pop(), 0));
            case 11 -> {
                int value = s.pop();
                app.kept.put(s.pop(), value);
            }
            case 12 -> {
                int value = s.pop();
                send(name, s.pop(), value);
            }
            default -> s.push(holds(name, n) ? 1 : 0);
        }
        app.place = next;
    }

    int app(int name, int what) {
        Installed app = apps.get(name);
        if (app == null) {
            return -1;
        }
        return switch (what) {
            case 0 -> app.bundle.version;
            case 1 -> app.bundle.signer;
            case 2 -> app.runs ? 1 : 0;
            case 3 -> app.runs ? app.place : 0;
            case 4 -> app.runs ? app.stack.size() : 0;
            case 5 -> app.runs && !app.stack.isEmpty() ? app.stack.peek() : 0;
            case 6 -> app.kept.size();
            default -> -1;
        };
    }

    boolean holds(int name, int permission) {
        Installed app = apps.get(name);
        if (app == null || !app.bundle.asked.contains(permission)) {
            return false;
        }
        for (Installed other : apps.values()) {
            Integer level = other.bundle.declared.get(permission);
            if (level != null) {
                return level == 0
                    || level == 1 && app.granted.contains(permission)
                    || level == 2 && app.bundle.signer == other.bundle.signer;
            }
        }
        return false;
    }

    int kept(int name, int key) {
        Installed app = apps.get(name);
        return app == null ? 0 : app.kept.getOrDefault(key, 0);
    }

    int queued() {
        return queue.size();
    }
}
