import java.util.Arrays;

/**
 * Cold made by up to six machines: what power they take, who starts and stops, what is short.
 * The words in capitals are those of the document.
 */
public final class ColdHouse {
    public static final int BAD = -1, NO = -2, FULL = -3, NONE = -4;

    private static final int MACHINES_MOST = 6;
    private static final int LETTERS_MOST = 200;
    private static final int CHANGES_MOST = 4;
    private static final int CALL_TICKS_MOST = 60;
    private static final int TICKS_MOST = 9999;
    private static final int LOAD_MOST = 480;
    private static final int MACHINE_LOAD_MOST = 80;
    private static final int POWER_LOAD_MOST = 99;
    private static final int LIFT_MOST = 45;

    private static final int LOAD = 0, WATER = 1, OUTSIDE = 2, COLD = 3, TOLD = 4;
    private static final int[] TOLD_LEAST = {0, 0, 0, 4};
    private static final int[] TOLD_MOST = {480, 240, 45, 14};
    private static final int[] TOLD_FIRST = {0, 0, 25, 7};

    private static final int TICKS_TO_COME_ON = 3;
    private static final int START_WINDOW = 60;
    private static final int STARTS_MOST = 9;
    /** So far back that it lies behind every REST and GAP. */
    private static final int NEVER = -100000;

    private static final int[] MACHINE_LEAST = {1, 1, 0, 0, 0, 1};
    private static final int[] MACHINE_MOST = {40, 80, 99, 99, 99, 40};
    private static final int[] RUN_LEAST = {0, 0, 1, 0};
    private static final int[] RUN_MOST = {30, 30, 9, 9};
    private static final int[] STAGE_LEAST = {50, 1, 0};
    private static final int[] STAGE_MOST = {99, 99, 9};
    private static final String FIRST_TEXT =
        "c10,40,20,9,30,12;c10,40,25,8,20,12;c5,20,8,12,40,6;c20,60,40,7,15,20;r5,3,3,1;h90,60,2;";

    private final Script script;
    private final Plant plant;
    private final State state;
    private final State trial;
    private final Past past;
    private final Staging staging;
    private final Sharing asked;
    private final BestSets bestSets;

    public ColdHouse() {
        script = new Script();
        plant = new Plant();
        state = new State();
        trial = new State();
        past = new Past();
        staging = new Staging(plant);
        asked = new Sharing(plant);
        bestSets = new BestSets(plant);
        for (int k = 0; k < FIRST_TEXT.length(); k++) {
            script.add(FIRST_TEXT.charAt(k));
        }
        script.layInto(plant);
        script.empty();
    }

    // ---- told

    public int write(int letter) {
        if (letter < 32 || letter > 126) {
            return BAD;
        }
        return script.add((char) letter) ? script.length : FULL;
    }

    public int wipe() {
        int length = script.length;
        script.empty();
        return length;
    }

    public int fault() {
        return script.firstFault();
    }

    public int lay() {
        if (script.firstFault() != NONE || script.machines() == 0) {
            return NO;
        }
        script.layInto(plant);
        state.reset();
        past.forget();
        staging.sharing.forget();
        asked.forget();
        bestSets.forget();
        return plant.machines;
    }

    // ---- told anew

    public int tell(int what, int v) {
        if (what < 0 || what >= TOLD || v < TOLD_LEAST[what] || v > TOLD_MOST[what]) {
            return BAD;
        }
        int was = state.told[what];
        if (was == v) {
            return NO;
        }
        past.keep(state);
        state.told[what] = v;
        return was;
    }

    public int lock(int m, int is) {
        if (!isMachine(m) || is < 0 || is > 1) {
            return BAD;
        }
        int bit = 1 << m;
        if (((state.locked & bit) != 0) == (is == 1)) {
            return NO;
        }
        past.keep(state);
        if (is == 1) {
            state.locked |= bit;
            state.stop(m);
            state.takeOffList(m);
        } else {
            state.locked &= ~bit;
        }
        return Integer.bitCount(state.locked);
    }

    public int dip() {
        int running = Integer.bitCount(state.running());
        past.keep(state);
        staging.fall(state);
        return running;
    }

    public int tick(int n) {
        if (n < 1 || n > CALL_TICKS_MOST) {
            return BAD;
        }
        if (state.ticks + n > TICKS_MOST) {
            return NO;
        }
        past.keep(state);
        int before = state.startedSoFar();
        for (int k = 0; k < n; k++) {
            staging.pass(state);
        }
        return state.startedSoFar() - before;
    }

    public int undo() {
        return past.giveBack(state) ? past.held : NO;
    }

    // ---- machines

    public int machine(int m, int what) {
        if (!isMachine(m)) {
            return BAD;
        }
        switch (what) {
            case 0: return plant.least[m];
            case 1: return plant.most[m];
            case 2: return plant.base[m];
            case 3: return plant.slope[m];
            case 4: return plant.curve[m];
            case 5: return plant.flow[m];
            case 6: return bitOf(state.starting, m) + 2 * bitOf(state.on, m);
            case 7: return state.hours[m];
            case 8: return state.starts[m];
            case 9: return bitOf(state.locked, m);
            case 10: return staging.mayStart(state, m, state.ticks + 1) ? 1 : 0;
            case 11: return staging.madeBy(state, m);
            case 12: return state.placeInList(m);
            default: return BAD;
        }
    }

    public int power(int m, int load, int lift) {
        if (!isMachine(m) || load < 0 || load > POWER_LOAD_MOST || lift < 0 || lift > LIFT_MOST) {
            return BAD;
        }
        return plant.powerAt(m, load, lift);
    }

    public int share(int set, int load, int m) {
        if (set < 0 || set > plant.all() || !isLoad(load) || (m != -1 && !isMachine(m))) {
            return BAD;
        }
        if (!asked.find(set, load, state.lift())) {
            return NONE;
        }
        return m == -1 ? asked.leastPower() : asked.part(m);
    }

    public int best(int load, int what) {
        if (!isLoad(load) || what < 0 || what > 1) {
            return BAD;
        }
        bestSets.reckon(plant.all() & ~state.locked, state.lift());
        if (!bestSets.has(load)) {
            return NONE;
        }
        return what == 0 ? bestSets.setFor(load) : bestSets.leastPower(load);
    }

    // ---- the house

    public int now(int what) {
        int load = state.told[LOAD];
        int made = staging.made(state);
        switch (what) {
            case 0: return made;
            case 1: return Math.max(0, load - made);
            case 2: return Math.max(0, made - load);
            case 3: return staging.powerNow(state);
            case 4: return Math.max(0, plant.flows(state.running()) - state.told[WATER]);
            case 5: return state.lift();
            case 6: return made == load ? aboveBest(load) : NONE;
            default: return BAD;
        }
    }

    public int ahead(int n, int what) {
        if (n < 1 || n > CALL_TICKS_MOST || what < 0 || what > 3) {
            return BAD;
        }
        trial.copyFrom(state);
        int shortTicks = 0;
        for (int k = 0; k < n; k++) {
            staging.pass(trial);
            if (staging.made(trial) < trial.told[LOAD]) {
                shortTicks++;
            }
        }
        switch (what) {
            case 0: return Integer.bitCount(trial.running());
            case 1: return trial.startedSoFar() - state.startedSoFar();
            case 2: return trial.energy - state.energy;
            default: return shortTicks;
        }
    }

    public int count(int what) {
        switch (what) {
            case 0: return plant.machines;
            case 1: return Integer.bitCount(state.running());
            case 2: return Integer.bitCount(state.on);
            case 3: return Integer.bitCount(state.locked);
            case 4: return state.listed;
            case 5: return state.ticks;
            case 6: return state.ups;
            case 7: return state.downs;
            case 8: return state.startedSoFar();
            case 9: return state.energy;
            case 10: return state.told[LOAD];
            case 11: return state.told[WATER];
            case 12: return state.told[OUTSIDE];
            case 13: return state.told[COLD];
            case 14: return past.held;
            case 15: return script.length;
            default: return BAD;
        }
    }

    private boolean isMachine(int m) {
        return m >= 0 && m < plant.machines;
    }

    private static boolean isLoad(int load) {
        return load >= 0 && load <= LOAD_MOST;
    }

    private static int bitOf(int set, int m) {
        return (set >> m) & 1;
    }

    private int aboveBest(int load) {
        bestSets.reckon(plant.all() & ~state.locked, state.lift());
        return bestSets.has(load) ? staging.powerNow(state) - bestSets.leastPower(load) : NONE;
    }

    /** THE TEXT, and how its ITEMS are read. */
    private static final class Script {
        int length;
        private final char[] letters = new char[LETTERS_MOST];
        /** The numbers of the ITEM that was read last. */
        private final int[] numbers = new int[MACHINE_MOST.length];

        boolean add(char letter) {
            if (length >= LETTERS_MOST) {
                return false;
            }
            letters[length] = letter;
            length++;
            return true;
        }

        void empty() {
            length = 0;
        }

        int firstFault() {
            int place = 0;
            int machines = 0;
            for (int k = 0; k < LETTERS_MOST && place < length; k++) {
                int behind = readItem(place);
                if (behind == NONE) {
                    return place;
                }
                if (letters[place] == 'c') {
                    machines++;
                }
                if (machines > MACHINES_MOST) {
                    return place;
                }
                place = behind;
            }
            return NONE;
        }

        /** How many MACHINES a TEXT without FAULT tells: no other letter of it is a c. */
        int machines() {
            int machines = 0;
            for (int k = 0; k < length; k++) {
                if (letters[k] == 'c') {
                    machines++;
                }
            }
            return machines;
        }

        /** For a TEXT without FAULT. */
        void layInto(Plant plant) {
            plant.reset();
            int place = 0;
            for (int k = 0; k < LETTERS_MOST && place < length; k++) {
                int behind = readItem(place);
                if (behind == NONE) {
                    return;
                }
                plant.take(letters[place], numbers);
                place = behind;
            }
        }

        /** The place behind the ITEM (and its ;) that begins here; NONE: it is not so. */
        private int readItem(int start) {
            char kind = letterAt(start);
            if (kind == 'c') {
                int behind = readNumbers(start + 1, MACHINE_LEAST, MACHINE_MOST);
                return numbers[0] <= numbers[1] ? behind : NONE;
            }
            if (kind == 'r') {
                return readNumbers(start + 1, RUN_LEAST, RUN_MOST);
            }
            if (kind == 'h') {
                return readNumbers(start + 1, STAGE_LEAST, STAGE_MOST);
            }
            return NONE;
        }

        private int readNumbers(int start, int[] least, int[] most) {
            int at = start;
            int wanted = Math.min(numbers.length, Math.min(least.length, most.length));
            for (int k = 0; k < wanted; k++) {
                if (!isFigure(at)) {
                    return NONE;
                }
                int number = letterAt(at) - '0';
                at++;
                if (isFigure(at)) {
                    number = number * 10 + letterAt(at) - '0';
                    at++;
                }
                char sign = k < wanted - 1 ? ',' : ';';
                if (letterAt(at) != sign || number < least[k] || number > most[k]) {
                    return NONE;
                }
                numbers[k] = number;
                at++;
            }
            return at;
        }

        private boolean isFigure(int place) {
            char letter = letterAt(place);
            return letter >= '0' && letter <= '9';
        }

        /** Behind the end stands a sign that no ITEM has. */
        private char letterAt(int place) {
            return place >= 0 && place < length && place < LETTERS_MOST ? letters[place] : ' ';
        }
    }

    /** What is LAID: the MACHINES and the rules of their staging. */
    private static final class Plant {
        int machines;
        final int[] least = new int[MACHINES_MOST];
        final int[] most = new int[MACHINES_MOST];
        final int[] base = new int[MACHINES_MOST];
        final int[] slope = new int[MACHINES_MOST];
        final int[] curve = new int[MACHINES_MOST];
        final int[] flow = new int[MACHINES_MOST];
        int run;
        int rest;
        int startsAllowed;
        int gap;
        int up;
        int down;
        int patience;

        void reset() {
            machines = 0;
            run = 5;
            rest = 3;
            startsAllowed = 3;
            gap = 1;
            up = 90;
            down = 60;
            patience = 2;
        }

        void take(char kind, int[] numbers) {
            if (numbers.length < MACHINE_MOST.length) {
                return;
            }
            if (kind == 'c') {
                takeMachine(numbers);
            } else if (kind == 'r') {
                run = numbers[0];
                rest = numbers[1];
                startsAllowed = numbers[2];
                gap = numbers[3];
            } else if (kind == 'h') {
                up = numbers[0];
                down = numbers[1];
                patience = numbers[2];
            }
        }

        private void takeMachine(int[] numbers) {
            if (machines >= MACHINES_MOST) {
                return;
            }
            least[machines] = numbers[0];
            most[machines] = numbers[1];
            base[machines] = numbers[2];
            slope[machines] = numbers[3];
            curve[machines] = numbers[4];
            flow[machines] = numbers[5];
            machines++;
        }

        /** The SET of all MACHINES. */
        int all() {
            return (1 << machines) - 1;
        }

        int powerAt(int m, int load, int lift) {
            return base[m] + (100 * slope[m] + curve[m] * load) * load * (60 + lift) / 10000;
        }

        boolean can(int set, int load) {
            return leasts(set) <= load && load <= mosts(set);
        }

        int leasts(int set) {
            return sumOver(set, least);
        }

        int mosts(int set) {
            return sumOver(set, most);
        }

        int flows(int set) {
            return sumOver(set, flow);
        }

        private int sumOver(int set, int[] of) {
            int sum = 0;
            for (int m = 0; m < machines && m < of.length; m++) {
                if ((set & (1 << m)) != 0) {
                    sum += of[m];
                }
            }
            return sum;
        }
    }

    /** How things stand: all that a change can change. SETS are held as bits. */
    private static final class State {
        final int[] told = new int[TOLD];
        int ticks;
        int ups;
        int downs;
        int energy;
        int locked;
        int starting;
        int on;
        /** The TICK in which any was STARTED last. */
        int lastStart;
        int listed;
        private final int[] list = new int[MACHINES_MOST];
        final int[] hours = new int[MACHINES_MOST];
        final int[] starts = new int[MACHINES_MOST];
        /** The TICKS of the last nine starts of each, as a ring: STARTS is nine at most. */
        private final int[] startTicks = new int[MACHINES_MOST * STARTS_MOST];
        private final int[] stopTick = new int[MACHINES_MOST];

        State() {
            reset();
        }

        void reset() {
            System.arraycopy(TOLD_FIRST, 0, told, 0, TOLD);
            ticks = 0;
            ups = 0;
            downs = 0;
            energy = 0;
            locked = 0;
            starting = 0;
            on = 0;
            lastStart = NEVER;
            listed = 0;
            Arrays.fill(hours, 0);
            Arrays.fill(starts, 0);
            Arrays.fill(stopTick, NEVER);
        }

        void copyFrom(State other) {
            System.arraycopy(other.told, 0, told, 0, TOLD);
            ticks = other.ticks;
            ups = other.ups;
            downs = other.downs;
            energy = other.energy;
            locked = other.locked;
            starting = other.starting;
            on = other.on;
            lastStart = other.lastStart;
            listed = other.listed;
            System.arraycopy(other.list, 0, list, 0, MACHINES_MOST);
            System.arraycopy(other.hours, 0, hours, 0, MACHINES_MOST);
            System.arraycopy(other.starts, 0, starts, 0, MACHINES_MOST);
            System.arraycopy(other.startTicks, 0, startTicks, 0, MACHINES_MOST * STARTS_MOST);
            System.arraycopy(other.stopTick, 0, stopTick, 0, MACHINES_MOST);
        }

        int running() {
            return starting | on;
        }

        int lift() {
            return Math.max(0, told[OUTSIDE] - told[COLD]);
        }

        int startedSoFar() {
            int sum = 0;
            for (int m = 0; m < MACHINES_MOST; m++) {
                sum += starts[m];
            }
            return sum;
        }

        /** STARTED in the TICK that goes by. */
        void start(int m) {
            starting |= 1 << m;
            startTicks[ringPlace(m, starts[m])] = ticks;
            starts[m]++;
            lastStart = ticks;
        }

        /** STOPPED in the TICK that goes by, or that was last. */
        void stop(int m) {
            if (bitOf(running(), m) == 1) {
                starting &= ~(1 << m);
                on &= ~(1 << m);
                stopTick[m] = ticks;
            }
        }

        int ticksSinceStart(int m, int tick) {
            return tick - startBack(m, 1);
        }

        int ticksSinceStop(int m, int tick) {
            return tick - stopTick[m];
        }

        /** The TICK of the start that is the back-th, seen from the latest; NEVER: there were fewer. */
        int startBack(int m, int back) {
            return starts[m] < back ? NEVER : startTicks[ringPlace(m, starts[m] - back)];
        }

        private static int ringPlace(int m, int start) {
            return m * STARTS_MOST + Math.floorMod(start, STARTS_MOST);
        }

        void putOnList(int m) {
            if (listed < MACHINES_MOST) {
                list[listed] = m;
                listed++;
            }
        }

        int firstOfList() {
            return list[0];
        }

        void takeOffList(int m) {
            int kept = 0;
            for (int k = 0; k < listed && k < MACHINES_MOST; k++) {
                if (list[k] != m) {
                    list[kept] = list[k];
                    kept++;
                }
            }
            listed = kept;
        }

        int placeInList(int m) {
            for (int k = 0; k < listed && k < MACHINES_MOST; k++) {
                if (list[k] == m) {
                    return k;
                }
            }
            return NONE;
        }
    }

    /** How things stood ahead of each of the last changes, as a ring. */
    private static final class Past {
        int held;
        private int next;
        private final State[] states = new State[CHANGES_MOST];

        Past() {
            for (int k = 0; k < CHANGES_MOST; k++) {
                states[k] = new State();
            }
        }

        void forget() {
            held = 0;
        }

        void keep(State state) {
            states[next].copyFrom(state);
            next = (next + 1) % CHANGES_MOST;
            held = Math.min(CHANGES_MOST, held + 1);
        }

        boolean giveBack(State state) {
            if (held == 0) {
                return false;
            }
            next = (next + CHANGES_MOST - 1) % CHANGES_MOST;
            held--;
            state.copyFrom(states[next]);
            return true;
        }
    }

    /** What goes by in a TICK and in a DIP, and what is made as things stand. */
    private static final class Staging {
        final Sharing sharing;
        private final Plant plant;

        Staging(Plant plant) {
            this.plant = plant;
            sharing = new Sharing(plant);
        }

        /** What all make together: LOAD, as far as LEASTS and MOSTS of those that are ON let them. */
        int made(State s) {
            return Math.max(plant.leasts(s.on), Math.min(plant.mosts(s.on), s.told[LOAD]));
        }

        int powerNow(State s) {
            return sharing.find(s.on, made(s), s.lift()) ? sharing.leastPower() : 0;
        }

        int madeBy(State s, int m) {
            return sharing.find(s.on, made(s), s.lift()) ? sharing.part(m) : 0;
        }

        void pass(State s) {
            s.energy += powerNow(s);
            s.ticks++;
            for (int m = 0; m < plant.machines; m++) {
                s.hours[m] += bitOf(s.running(), m);
                comeOn(s, m);
            }
            if (s.listed > 0) {
                comeBack(s);
            } else if (100 * s.told[LOAD] > plant.up * plant.mosts(s.running())) {
                stageUp(s);
            } else {
                stageDown(s);
            }
        }

        private void comeOn(State s, int m) {
            if (bitOf(s.starting, m) == 1 && s.ticksSinceStart(m, s.ticks) >= TICKS_TO_COME_ON) {
                s.starting &= ~(1 << m);
                s.on |= 1 << m;
            }
        }

        private void comeBack(State s) {
            if (gapIsOver(s, s.ticks)) {
                int m = s.firstOfList();
                s.takeOffList(m);
                s.start(m);
            }
        }

        private void stageUp(State s) {
            s.ups++;
            s.downs = 0;
            int m = s.ups > plant.patience ? nextToStart(s) : NONE;
            if (m != NONE) {
                s.start(m);
                s.ups = 0;
            }
        }

        private void stageDown(State s) {
            int m = nextToStop(s);
            s.ups = 0;
            if (m == NONE || 100 * s.told[LOAD] >= plant.down * plant.mosts(s.running() & ~(1 << m))) {
                s.downs = 0;
                return;
            }
            s.downs++;
            if (s.downs > plant.patience) {
                s.stop(m);
                s.downs = 0;
            }
        }

        private boolean gapIsOver(State s, int tick) {
            return tick - s.lastStart > plant.gap;
        }

        boolean mayStart(State s, int m, int tick) {
            return bitOf(s.running() | s.locked, m) == 0
                && s.ticksSinceStop(m, tick) > plant.rest
                && tick - s.startBack(m, plant.startsAllowed) >= START_WINDOW
                && gapIsOver(s, tick);
        }

        private int nextToStart(State s) {
            int found = NONE;
            for (int m = 0; m < plant.machines; m++) {
                if (mayStart(s, m, s.ticks) && (found == NONE || s.hours[m] < s.hours[found])) {
                    found = m;
                }
            }
            return found;
        }

        private int nextToStop(State s) {
            int found = NONE;
            for (int m = 0; m < plant.machines; m++) {
                if (bitOf(s.on, m) == 1 && s.ticksSinceStart(m, s.ticks) > plant.run
                    && (found == NONE || s.hours[m] >= s.hours[found])) {
                    found = m;
                }
            }
            return found;
        }

        void fall(State s) {
            int left = s.running();
            for (int k = 0; k < MACHINES_MOST && left != 0; k++) {
                int m = greatestOf(left);
                left &= ~(1 << m);
                s.stop(m);
                s.putOnList(m);
            }
            s.ups = 0;
            s.downs = 0;
        }

        private int greatestOf(int set) {
            int found = 0;
            int most = 0;
            for (int m = 0; m < plant.machines; m++) {
                if (bitOf(set, m) == 1 && plant.most[m] > most) {
                    found = m;
                    most = plant.most[m];
                }
            }
            return found;
        }
    }

    /**
     * The BEST SHARE of a load by a SET. Each share is one number: POWER in front, the loads of the
     * MACHINES behind it, the lowest MACHINE first, so that the least number is the BEST SHARE, and
     * numbers of MACHINES can be added.
     */
    private static final class Sharing {
        private static final int PART_BITS = 7;
        private static final int PART_MASK = 127;
        private static final int POWER_SHIFT = PART_BITS * MACHINES_MOST;

        private final Plant plant;
        private final long[] leastFor = new long[LOAD_MOST + 1];
        private final long[] row = new long[MACHINE_LOAD_MOST + 1];
        private boolean known;
        private int set;
        private int load;
        private int lift;
        /** The loads that the MACHINES seen so far may make together. */
        private int low;
        private int high;

        Sharing(Plant plant) {
            this.plant = plant;
        }

        void forget() {
            known = false;
        }

        boolean find(int ofSet, int ofLoad, int byLift) {
            if (known && set == ofSet && load == ofLoad && lift == byLift) {
                return true;
            }
            if (ofLoad < 0 || ofLoad > LOAD_MOST || !plant.can(ofSet, ofLoad)) {
                return false;
            }
            known = true;
            set = ofSet;
            load = ofLoad;
            lift = byLift;
            low = 0;
            high = 0;
            leastFor[0] = 0L;
            for (int m = 0; m < plant.machines; m++) {
                if (bitOf(set, m) == 1) {
                    addMachine(m, set & -(2 << m));
                }
            }
            return true;
        }

        int leastPower() {
            return (int) (leastFor[load] >> POWER_SHIFT);
        }

        int part(int m) {
            return (int) (leastFor[load] >> shiftOf(m)) & PART_MASK;
        }

        private static int shiftOf(int m) {
            return PART_BITS * (MACHINES_MOST - 1 - m);
        }

        /** Goes down, as a sum is made from lower ones, which must not count this MACHINE yet. */
        private void addMachine(int m, int later) {
            fillRow(m);
            int newLow = Math.max(low + plant.least[m], load - plant.mosts(later));
            int newHigh = Math.min(high + plant.most[m], load - plant.leasts(later));
            for (int sum = newHigh; sum >= newLow; sum--) {
                leastFor[sum] = leastWith(m, sum);
            }
            low = newLow;
            high = newHigh;
        }

        private void fillRow(int m) {
            for (int x = plant.least[m]; x <= plant.most[m]; x++) {
                row[x] = ((long) plant.powerAt(m, x, lift) << POWER_SHIFT) + ((long) x << shiftOf(m));
            }
        }

        private long leastWith(int m, int sum) {
            int last = Math.min(plant.most[m], sum - low);
            long found = Long.MAX_VALUE;
            for (int x = Math.max(plant.least[m], sum - high); x <= last; x++) {
                long tried = leastFor[sum - x] + row[x];
                if (tried < found) {
                    found = tried;
                }
            }
            return found;
        }
    }

    /**
     * The BEST SET for every load. A SET with a share is one number: POWER in front, then how many
     * MACHINES, then the bits, so that the least number is the BEST SET, and numbers of MACHINES can
     * be added.
     */
    private static final class BestSets {
        private static final int COUNT_SHIFT = MACHINES_MOST;
        private static final int POWER_SHIFT = COUNT_SHIFT + 3;
        private static final int SET_MASK = (1 << COUNT_SHIFT) - 1;
        /** Above every number of a SET, and low enough that a MACHINE's number can be added. */
        private static final int UNREACHED = 1 << 30;

        private final Plant plant;
        private final int[] leastFor = new int[LOAD_MOST + 1];
        private final int[] row = new int[MACHINE_LOAD_MOST + 1];
        private boolean known;
        private int open;
        private int lift;

        BestSets(Plant plant) {
            this.plant = plant;
        }

        void forget() {
            known = false;
        }

        void reckon(int ofSet, int byLift) {
            if (known && open == ofSet && lift == byLift) {
                return;
            }
            known = true;
            open = ofSet;
            lift = byLift;
            Arrays.fill(leastFor, UNREACHED);
            leastFor[0] = 0;
            for (int m = 0; m < plant.machines; m++) {
                if (bitOf(open, m) == 1) {
                    addMachine(m);
                }
            }
        }

        boolean has(int load) {
            return leastFor[load] < UNREACHED;
        }

        int setFor(int load) {
            return leastFor[load] & SET_MASK;
        }

        int leastPower(int load) {
            return leastFor[load] >> POWER_SHIFT;
        }

        /** Goes down, as a sum is made from lower ones, which must not count this MACHINE yet. */
        private void addMachine(int m) {
            fillRow(m);
            int seen = open & ((2 << m) - 1);
            for (int sum = Math.min(LOAD_MOST, plant.mosts(seen)); sum >= plant.least[m]; sum--) {
                leastFor[sum] = Math.min(leastFor[sum], leastWith(m, sum));
            }
        }

        private void fillRow(int m) {
            for (int x = plant.least[m]; x <= plant.most[m]; x++) {
                row[x] = (plant.powerAt(m, x, lift) << POWER_SHIFT) + (1 << COUNT_SHIFT) + (1 << m);
            }
        }

        private int leastWith(int m, int sum) {
            int last = Math.min(plant.most[m], sum);
            int found = UNREACHED;
            for (int x = plant.least[m]; x <= last; x++) {
                int tried = leastFor[sum - x] + row[x];
                if (tried < found) {
                    found = tried;
                }
            }
            return found;
        }
    }
}
