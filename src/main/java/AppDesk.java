import java.util.Arrays;

/** A small platform for apps: packages are signed, installed, given permissions, run, and send intents. */
public final class AppDesk {
    public static final int NONE = -1;

    private static final int APPS = 8;
    private static final int PERMISSIONS = 8;
    private static final int SIGNERS = 4;
    private static final int ACTIONS = 10;
    private static final int LEVELS = 3;
    private static final int KEYS = 8;
    private static final int LOCALS = 4;
    private static final int MOST_PARTS = 4;
    private static final int MOST_WORDS = 24;
    private static final int MOST_HEIGHT = 6;
    private static final int MOST_KEPT = 3;
    private static final int MOST_INTENTS = 8;

    private static final int FOR_ALL = 0;
    private static final int BY_USER = 1;

    private static final int END = 0;
    private static final int PUSH = 1;
    private static final int ADD = 2;
    private static final int SUBTRACT = 3;
    private static final int COPY = 4;
    private static final int DROP = 5;
    private static final int LOAD = 6;
    private static final int STORE = 7;
    private static final int JUMP = 8;
    private static final int JUMP_IF_ZERO = 9;
    private static final int GET = 10;
    private static final int KEEP = 11;
    private static final int SEND = 12;
    private static final int HOLDS = 13;
    private static final int OPERATIONS = 14;

    private final Pack draftPack;
    private final App[] apps;
    private final IntentQueue intents;
    private final Verifier verifier;
    private int lastToStep;

    public AppDesk() {
        draftPack = new Pack();
        apps = new App[APPS];
        for (int name = 0; name < APPS; name++) {
            apps[name] = new App();
        }
        intents = new IntentQueue();
        verifier = new Verifier();
        lastToStep = NONE;
    }

    public boolean draft(int name, int version, int signer) {
        if (!isBelow(name, APPS) || !isBelow(signer, SIGNERS) || version < 1) {
            return false;
        }
        draftPack.beginAnew(name, version, signer);
        return true;
    }

    public boolean word(int w) {
        return draftPack.addWord(w);
    }

    public boolean part(int action, boolean open, int guard, int place) {
        if (!isBelow(action, ACTIONS) || (guard != NONE && !isBelow(guard, PERMISSIONS))) {
            return false;
        }
        return draftPack.addPart(action, open, guard, place);
    }

    public boolean ask(int permission) {
        if (!isBelow(permission, PERMISSIONS) || draftPack.asksFor(permission)) {
            return false;
        }
        draftPack.asked |= 1 << permission;
        return true;
    }

    public boolean declare(int permission, int level) {
        if (!isBelow(permission, PERMISSIONS) || !isBelow(level, LEVELS) || draftPack.declares(permission)) {
            return false;
        }
        draftPack.levels[permission] = level;
        return true;
    }

    public int sign() {
        draftPack.sealNow = draftPack.sealOfSigner();
        return draftPack.sealNow;
    }

    public void seal(int seal) {
        draftPack.sealNow = seal;
    }

    public int install() throws IllegalArgumentException, IllegalStateException {
        if (!isSound(draftPack)) {
            throw new IllegalArgumentException();
        }
        if (!mayEnter(draftPack)) {
            throw new IllegalStateException();
        }
        apps[draftPack.name].takeIn(draftPack);
        return draftPack.name;
    }

    public boolean remove(int name) {
        if (!isInstalled(name)) {
            return false;
        }
        apps[name].clearAway();
        intents.dropAllOf(name);
        return true;
    }

    public boolean grant(int name, int permission) {
        if (!isInstalled(name) || !apps[name].pack.asksFor(permission) || apps[name].wasGranted(permission)) {
            return false;
        }
        apps[name].granted |= 1 << permission;
        return true;
    }

    public boolean revoke(int name, int permission) {
        if (!isInstalled(name) || !apps[name].wasGranted(permission)) {
            return false;
        }
        apps[name].granted &= ~(1 << permission);
        return true;
    }

    public boolean send(int name, int action, int value) {
        if (!isInstalled(name) || !isBelow(action, ACTIONS)) {
            return false;
        }
        return intents.add(name, action, value);
    }

    public int deliver() {
        if (intents.size == 0) {
            return NONE;
        }
        int sender = intents.senders[0];
        int action = intents.actions[0];
        int value = intents.values[0];
        intents.dropFirst();
        for (int name = 0; name < APPS; name++) {
            int place = placeToBegin(name, sender, action);
            if (place != NONE) {
                apps[name].begin(place, value, sender);
                return name;
            }
        }
        return NONE;
    }

    public int step() throws IllegalStateException {
        int name = nextInTurn();
        if (name == NONE) {
            return NONE;
        }
        lastToStep = name;
        if (!doWord(name)) {
            apps[name].runs = false;
            throw new IllegalStateException();
        }
        return name;
    }

    public int app(int name, int what) {
        if (!isInstalled(name)) {
            return NONE;
        }
        App asked = apps[name];
        switch (what) {
            case 0:
                return asked.pack.version;
            case 1:
                return asked.pack.signer;
            case 2:
                return asked.runs ? 1 : 0;
            case 3:
                return asked.runs ? asked.place : 0;
            case 4:
                return asked.runs ? asked.height : 0;
            case 5:
                return asked.runs ? asked.uppermost() : 0;
            case 6:
                return Integer.bitCount(asked.keptKeys);
            default:
                return NONE;
        }
    }

    public boolean holds(int name, int permission) {
        if (!isInstalled(name) || !apps[name].pack.asksFor(permission)) {
            return false;
        }
        int declarer = declarerOf(permission);
        if (declarer == NONE) {
            return false;
        }
        int level = apps[declarer].pack.levels[permission];
        if (level == FOR_ALL) {
            return true;
        }
        if (level == BY_USER) {
            return apps[name].wasGranted(permission);
        }
        return apps[name].pack.signer == apps[declarer].pack.signer;
    }

    public int kept(int name, int key) {
        return isInstalled(name) ? apps[name].valueUnder(key) : 0;
    }

    public int queued() {
        return intents.size;
    }

    private static boolean isBelow(int number, int limit) {
        return number >= 0 && number < limit;
    }

    /** A shift takes its count mod 32, so a number that is no bit's must be refused first. */
    private static boolean hasBit(int bits, int number, int limit) {
        return isBelow(number, limit) && (bits >> number & 1) == 1;
    }

    private static int operationOf(int w) {
        return w & 15;
    }

    private static int argumentOf(int w) {
        return w >> 4;
    }

    private boolean isInstalled(int name) {
        return isBelow(name, APPS) && apps[name].installed;
    }

    private int declarerOf(int permission) {
        for (int name = 0; name < APPS; name++) {
            if (apps[name].installed && apps[name].pack.declares(permission)) {
                return name;
            }
        }
        return NONE;
    }

    /** What the package shows by itself, whatever else is installed. */
    private boolean isSound(Pack pack) {
        return pack.partCount > 0
            && pack.wordCount > 0
            && pack.sealNow == pack.sealOfSigner()
            && verifier.isGood(pack);
    }

    /** Whether the packages that are installed let this one in. */
    private boolean mayEnter(Pack pack) {
        App older = apps[pack.name];
        if (older.installed && (older.pack.signer != pack.signer || older.pack.version >= pack.version)) {
            return false;
        }
        for (int permission = 0; permission < PERMISSIONS; permission++) {
            if (pack.declares(permission) && isDeclaredByOther(permission, pack.name)) {
                return false;
            }
        }
        return true;
    }

    /** No two installed apps declare one permission, so the first that is found is the only one. */
    private boolean isDeclaredByOther(int permission, int name) {
        int declarer = declarerOf(permission);
        return declarer != NONE && declarer != name;
    }

    /** Where the app would begin for the intent, or NONE if no part of it may have it. */
    private int placeToBegin(int name, int sender, int action) {
        App receiver = apps[name];
        if (!receiver.installed || receiver.runs) {
            return NONE;
        }
        Pack pack = receiver.pack;
        for (int i = 0; i < pack.partCount; i++) {
            boolean reachable = pack.openings[i] == 1 || name == sender;
            if (pack.actions[i] == action && reachable && passesGuard(sender, pack.guards[i])) {
                return pack.places[i];
            }
        }
        return NONE;
    }

    private boolean passesGuard(int sender, int guard) {
        return guard == NONE || holds(sender, guard);
    }

    private int nextInTurn() {
        for (int i = 1; i <= APPS; i++) {
            int name = (lastToStep + i) % APPS;
            if (apps[name].runs) {
                return name;
            }
        }
        return NONE;
    }

    /** False if the app fails by its word; nothing of the word is done then. */
    private boolean doWord(int name) {
        App runner = apps[name];
        int w = runner.wordInPlace();
        switch (operationOf(w)) {
            case SEND:
                return sendFromStack(name);
            case HOLDS:
                runner.push(holds(name, argumentOf(w)) ? 1 : 0);
                runner.place++;
                return true;
            case GET:
                return runner.getKept();
            case KEEP:
                return runner.keepUppermost();
            case END:
            case JUMP:
            case JUMP_IF_ZERO:
                runner.doTurn(operationOf(w), argumentOf(w));
                return true;
            default:
                runner.doPlainWord(operationOf(w), argumentOf(w));
                return true;
        }
    }

    private boolean sendFromStack(int name) {
        App sender = apps[name];
        int action = sender.secondUppermost();
        if (!isBelow(action, ACTIONS)) {
            return false;
        }
        int value = sender.pop();
        sender.pop();
        // A full queue loses the intent, but the word is done all the same.
        intents.add(name, action, value);
        sender.place++;
        return true;
    }

    /** A package, as a draft or as it was installed. */
    private static final class Pack {
        int name;
        int version;
        int signer;
        int sealNow;
        int asked;
        final int[] levels;
        int partCount;
        final int[] actions;
        final int[] openings;
        final int[] guards;
        final int[] places;
        int wordCount;
        final int[] words;

        Pack() {
            version = 1;
            levels = new int[PERMISSIONS];
            Arrays.fill(levels, NONE);
            actions = new int[MOST_PARTS];
            openings = new int[MOST_PARTS];
            guards = new int[MOST_PARTS];
            places = new int[MOST_PARTS];
            words = new int[MOST_WORDS];
        }

        void beginAnew(int newName, int newVersion, int newSigner) {
            name = newName;
            version = newVersion;
            signer = newSigner;
            sealNow = 0;
            asked = 0;
            Arrays.fill(levels, NONE);
            partCount = 0;
            wordCount = 0;
        }

        /** Copies into the rows at hand, so that installing makes no objects. */
        void copyFrom(Pack other) {
            beginAnew(other.name, other.version, other.signer);
            sealNow = other.sealNow;
            asked = other.asked;
            System.arraycopy(other.levels, 0, levels, 0, PERMISSIONS);
            partCount = other.partCount;
            System.arraycopy(other.actions, 0, actions, 0, MOST_PARTS);
            System.arraycopy(other.openings, 0, openings, 0, MOST_PARTS);
            System.arraycopy(other.guards, 0, guards, 0, MOST_PARTS);
            System.arraycopy(other.places, 0, places, 0, MOST_PARTS);
            wordCount = other.wordCount;
            System.arraycopy(other.words, 0, words, 0, MOST_WORDS);
        }

        boolean addWord(int w) {
            if (wordCount >= MOST_WORDS) {
                return false;
            }
            words[wordCount] = w;
            wordCount++;
            return true;
        }

        boolean addPart(int action, boolean open, int guard, int place) {
            if (partCount >= MOST_PARTS) {
                return false;
            }
            actions[partCount] = action;
            openings[partCount] = open ? 1 : 0;
            guards[partCount] = guard;
            places[partCount] = place;
            partCount++;
            return true;
        }

        boolean asksFor(int permission) {
            return hasBit(asked, permission, PERMISSIONS);
        }

        boolean declares(int permission) {
            return isBelow(permission, PERMISSIONS) && levels[permission] != NONE;
        }

        int sealOfSigner() {
            return digest() ^ 1000003 * (signer + 1);
        }

        private int digest() {
            int h = mix(mix(mix(17, name), version), asked);
            for (int permission = 0; permission < PERMISSIONS; permission++) {
                if (declares(permission)) {
                    h = mix(h, 10 * permission + levels[permission]);
                }
            }
            for (int i = 0; i < partCount; i++) {
                h = mix(mix(mix(mix(h, actions[i]), openings[i]), guards[i]), places[i]);
            }
            for (int i = 0; i < wordCount; i++) {
                h = mix(h, words[i]);
            }
            return h;
        }

        private static int mix(int before, int x) {
            int h = before * 31 + x;
            return h ^ (h >>> 13);
        }
    }

    /** What stands under a name: the installed package, what it keeps and was granted, and how it runs. */
    private static final class App {
        boolean installed;
        final Pack pack;
        int granted;
        int keptKeys;
        private final int[] keptValues;
        boolean runs;
        int place;
        int height;
        private final int[] stack;
        private final int[] locals;

        App() {
            pack = new Pack();
            keptValues = new int[KEYS];
            stack = new int[MOST_HEIGHT];
            locals = new int[LOCALS];
        }

        void takeIn(Pack newer) {
            pack.copyFrom(newer);
            granted &= newer.asked;
            runs = false;
            installed = true;
        }

        void clearAway() {
            installed = false;
            granted = 0;
            keptKeys = 0;
            runs = false;
        }

        void begin(int newPlace, int value, int sender) {
            runs = true;
            place = newPlace;
            height = 0;
            Arrays.fill(locals, 0);
            locals[0] = value;
            locals[1] = sender;
        }

        boolean wasGranted(int permission) {
            return hasBit(granted, permission, PERMISSIONS);
        }

        boolean keepsUnder(int key) {
            return hasBit(keptKeys, key, KEYS);
        }

        int valueUnder(int key) {
            return keepsUnder(key) ? keptValues[key] : 0;
        }

        int wordInPlace() {
            return isBelow(place, pack.wordCount) ? pack.words[place] : END;
        }

        // Good code never leaves the stack's bounds; the looks at them here keep every index safe by itself.

        int uppermost() {
            return isBelow(height - 1, MOST_HEIGHT) ? stack[height - 1] : 0;
        }

        int secondUppermost() {
            return isBelow(height - 2, MOST_HEIGHT) ? stack[height - 2] : 0;
        }

        void push(int value) {
            if (isBelow(height, MOST_HEIGHT)) {
                stack[height] = value;
                height++;
            }
        }

        int pop() {
            int value = uppermost();
            height = Math.max(height - 1, 0);
            return value;
        }

        /** The words by which the app does not simply go on to the next place. */
        void doTurn(int operation, int n) {
            if (operation == END) {
                runs = false;
                return;
            }
            boolean jumps = operation == JUMP || pop() == 0;
            place += jumps ? n : 1;
        }

        /** The words that need nothing but stack and locals and never fail. */
        void doPlainWord(int operation, int n) {
            switch (operation) {
                case PUSH:
                    push(n);
                    break;
                case ADD:
                    push(pop() + pop());
                    break;
                case SUBTRACT:
                    int upper = pop();
                    push(pop() - upper);
                    break;
                case COPY:
                    push(uppermost());
                    break;
                case DROP:
                    pop();
                    break;
                case LOAD:
                    push(isBelow(n, LOCALS) ? locals[n] : 0);
                    break;
                case STORE:
                    storeInto(n, pop());
                    break;
                default:
                    break;
            }
            place++;
        }

        private void storeInto(int local, int value) {
            if (isBelow(local, LOCALS)) {
                locals[local] = value;
            }
        }

        boolean getKept() {
            int key = uppermost();
            if (!isBelow(key, KEYS)) {
                return false;
            }
            pop();
            push(valueUnder(key));
            place++;
            return true;
        }

        boolean keepUppermost() {
            int key = secondUppermost();
            if (!isBelow(key, KEYS) || (!keepsUnder(key) && Integer.bitCount(keptKeys) >= MOST_KEPT)) {
                return false;
            }
            keptKeys |= 1 << key;
            keptValues[key] = pop();
            pop();
            place++;
            return true;
        }
    }

    /** The intents that wait, in order, the first one in row 0. */
    private static final class IntentQueue {
        int size;
        final int[] senders;
        final int[] actions;
        final int[] values;

        IntentQueue() {
            senders = new int[MOST_INTENTS];
            actions = new int[MOST_INTENTS];
            values = new int[MOST_INTENTS];
        }

        boolean add(int sender, int action, int value) {
            if (size >= MOST_INTENTS) {
                return false;
            }
            setRow(size, sender, action, value);
            size++;
            return true;
        }

        void dropFirst() {
            for (int i = 1; i < size; i++) {
                setRow(i - 1, senders[i], actions[i], values[i]);
            }
            size = Math.max(size - 1, 0);
        }

        void dropAllOf(int sender) {
            int left = 0;
            for (int i = 0; i < size; i++) {
                if (senders[i] != sender) {
                    setRow(left, senders[i], actions[i], values[i]);
                    left++;
                }
            }
            size = left;
        }

        private void setRow(int row, int sender, int action, int value) {
            senders[row] = sender;
            actions[row] = action;
            values[row] = value;
        }
    }

    /** Tells good code; its rows are made once and used for every package. */
    private static final class Verifier {
        private static final int UNREACHED = -1;
        private static final int[] NEEDS = {0, 0, 2, 2, 1, 1, 0, 1, 0, 1, 1, 2, 2, 0};
        private static final int[] LEAVES = {0, 1, 1, 1, 2, 0, 1, 0, 0, 0, 1, 0, 0, 1};

        private final int[] heights;
        private final int[] reached;
        private int reachedCount;

        Verifier() {
            heights = new int[MOST_WORDS];
            reached = new int[MOST_WORDS];
        }

        boolean isGood(Pack pack) {
            Arrays.fill(heights, UNREACHED);
            reachedCount = 0;
            for (int i = 0; i < pack.partCount; i++) {
                if (!reach(pack, pack.places[i], 0)) {
                    return false;
                }
            }
            // A word enters the row once, when it is first reached, so the row never outgrows the code.
            for (int i = 0; i < reachedCount && i < MOST_WORDS; i++) {
                if (!goesOnWell(pack, reached[i])) {
                    return false;
                }
            }
            return true;
        }

        /** False if the place is outside the code or was reached with another height. */
        private boolean reach(Pack pack, int place, int height) {
            if (!isBelow(place, pack.wordCount)) {
                return false;
            }
            if (heights[place] == UNREACHED && reachedCount < MOST_WORDS) {
                heights[place] = height;
                reached[reachedCount] = place;
                reachedCount++;
            }
            return heights[place] == height;
        }

        private boolean goesOnWell(Pack pack, int place) {
            int operation = operationOf(pack.words[place]);
            int n = argumentOf(pack.words[place]);
            if (operation >= OPERATIONS || !hasGoodArgument(operation, n) || heights[place] < NEEDS[operation]) {
                return false;
            }
            int height = heights[place] - NEEDS[operation] + LEAVES[operation];
            if (height > MOST_HEIGHT) {
                return false;
            }
            boolean mayJump = operation == JUMP || operation == JUMP_IF_ZERO;
            boolean mayGoOn = operation != END && operation != JUMP;
            return (!mayJump || reach(pack, place + n, height)) && (!mayGoOn || reach(pack, place + 1, height));
        }

        private static boolean hasGoodArgument(int operation, int n) {
            if (operation == LOAD || operation == STORE) {
                return isBelow(n, LOCALS);
            }
            return operation != HOLDS || isBelow(n, PERMISSIONS);
        }
    }
}
