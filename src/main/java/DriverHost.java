import java.util.NoSuchElementException;

/** A host for device drivers that may crash, tick by tick. The document numbers what it promises. */
public final class DriverHost {
    public static final int NONE = -1;
    public static final int HIDDEN = -1000000000;

    private static final int MOST_BYTES = 900;
    private static final int FEED_BYTES = 20;
    private static final int MOST_QUERY_BYTES = 200;
    // A text of 900 bytes has at most 900 tokens, so no loop over tokens comes near this.
    private static final int MOST_TOKENS = 1000;
    private static final int MOST_OPEN = 6;
    private static final int STACK_SIZE = 64;

    private static final int MOST_DRIVERS = 4;
    private static final int MOST_COMMANDS = 8;
    private static final int MOST_REQUESTS = 100;
    private static final int MOST_RECORDS = 200;
    private static final int MOST_UNDOS = 10;
    private static final int MOST_LOGGED = 20;

    private static final int REGISTERS = 8;
    private static final int VARIABLES = 4;
    private static final int FIRST_VARIABLE = REGISTERS;
    private static final int ARGUMENT_CELL = REGISTERS + VARIABLES;
    private static final int RESULT_CELL = ARGUMENT_CELL + 1;
    private static final int CELLS = RESULT_CELL + 1;
    private static final int LAST_STORED = 65535;

    private static final int LAST_CLOCK = 1000000;
    private static final int NEVER = 2147483647;
    private static final int MOST_TICKS = 1000;
    private static final int MOST_TRIAL_TICKS = 200;
    private static final int MOST_TRIAL_DELAY = 16;
    private static final int LAST_PRIORITY = 3;
    private static final int LAST_LIMIT = 100000;
    private static final int LAST_TIMES = 20;

    private static final int CLASS_PURE = 0;
    private static final int CLASS_AGAIN = 1;
    private static final int CLASS_ONCE = 2;
    private static final int CLASS_CHECK = 3;

    private static final int RUNNING = 0;
    private static final int DOWN = 1;
    private static final int DEAD = 2;

    private static final int QUEUED = 0;
    private static final int IN_FLIGHT = 1;
    private static final int COMPLETED = 2;
    private static final int FAILED = 3;

    private static final int TOO_LATE = 1;
    private static final int UNKNOWN_OUTCOME = 2;
    private static final int POISONED = 3;
    private static final int CANCELLED = 4;
    private static final int DRIVER_DEAD = 5;

    private static final int NO_POINT = 0;
    private static final int BEFORE_EFFECT = 1;
    private static final int AFTER_EFFECT = 2;

    private static final int DECIDED_AGAIN = 0;
    private static final int DECIDED_COMPLETED = 1;
    private static final int DECIDED_FAILED = 2;

    private static final int EVENT_ACCEPTED = 0;
    private static final int EVENT_BEGUN = 1;
    private static final int EVENT_COMPLETED = 2;
    private static final int EVENT_FAILED = 3;
    private static final int EVENT_CRASH = 4;
    private static final int EVENT_RESTART = 5;
    private static final int EVENT_SNAPSHOT = 6;
    private static final int EVENT_AGAIN = 7;
    private static final int EVENT_DEATH = 8;
    private static final int EVENTS = 9;

    private static final int TOKEN_WORD = 0;
    private static final int TOKEN_NUMBER = 1;
    private static final int TOKEN_SIGN = 2;
    // Far above every range, so that no long run of digits wraps around into one.
    private static final int NUMBER_CAP = 1000000;

    private static final int NO_ERROR = 0;
    private static final int ERROR_TOKEN = 1;
    private static final int ERROR_RANGE = 2;
    private static final int ERROR_TOO_MANY = 3;
    private static final int ERROR_NAME = 4;

    private static final int IN_TEST = 0;
    private static final int IN_RESULT = 1;
    private static final int IN_SET = 2;
    private static final int IN_KEEP = 3;

    private static final int OP_NUMBER = 0;
    private static final int OP_CELL = 1;
    private static final int OP_STORE = 2;
    private static final int OP_NOT = 3;
    private static final int OP_ADD = 4;
    private static final int OP_SUBTRACT = 5;
    private static final int OP_MULTIPLY = 6;
    private static final int OP_LESS = 7;
    private static final int OP_EQUAL = 8;
    private static final int OP_GREATER = 9;
    private static final int OP_AND = 10;
    private static final int OP_OR = 11;

    private static final int PROPERTIES = 11;
    private static final int LAST_QUERY_NUMBER = 99999;

    private final byte[] buffer = new byte[MOST_BYTES];
    private int fed = 0;
    private int errorAt = NONE;
    private World world = new World(new Program(0));
    private final History history = new History();
    private World kept = null;
    private boolean hasKept = false;
    private World trial = null;

    public DriverHost() {
    }

    public int feed(int a, int b, int c, int d, int e) {
        if (fed + FEED_BYTES > MOST_BYTES) {
            return NONE;
        }
        append(a);
        append(b);
        append(c);
        append(d);
        append(e);
        return fed;
    }

    private void append(int four) {
        for (int shift = 24; shift >= 0; shift -= 8) {
            if (fed < buffer.length) {
                buffer[fed] = (byte) (four >> shift);
                fed++;
            }
        }
    }

    public int load(int length) throws IllegalArgumentException {
        if (length < 0 || length > fed) {
            throw new IllegalArgumentException("length out of range");
        }
        Reader reader = new Reader(buffer, length, false);
        reader.readText();
        fed = 0;
        errorAt = reader.tokens.errorAt;
        if (reader.tokens.error != NO_ERROR) {
            return -10 - reader.tokens.error;
        }
        world = new World(reader.program);
        history.clear();
        hasKept = false;
        return reader.program.commandCount;
    }

    public int errorPosition() {
        return errorAt;
    }

    public int driverCount() {
        return world.program.driverCount;
    }

    public int commandCount() {
        return world.program.commandCount;
    }

    public int requestCount() {
        return world.requestCount;
    }

    public int clock() {
        return world.clock;
    }

    public int classOf(int command) throws NoSuchElementException {
        return world.program.commandAt(command).kind;
    }

    public int timeOf(int command) throws NoSuchElementException {
        return world.program.commandAt(command).time;
    }

    public int submit(int driver, int command, int argument, int priority, int limit)
            throws NoSuchElementException, IllegalArgumentException {
        Driver owner = world.driverAt(driver);
        world.program.commandAt(command);
        if (!isWithin(priority, 0, LAST_PRIORITY) || !isWithin(limit, 0, LAST_LIMIT)) {
            throw new IllegalArgumentException("priority or limit out of range");
        }
        if (owner.state == DEAD) {
            return -2;
        }
        if (world.requestCount >= MOST_REQUESTS) {
            return -3;
        }
        history.remember(world);
        Request request = world.addRequest(driver, command);
        request.argument = argument;
        request.priority = priority;
        request.limit = limit;
        world.enqueue(owner, request, EVENT_ACCEPTED);
        return request.number;
    }

    public int cancel(int request) throws NoSuchElementException {
        Request cancelled = world.requestAt(request);
        if (cancelled.state != QUEUED) {
            return -2;
        }
        history.remember(world);
        world.fail(cancelled, CANCELLED);
        return world.clock;
    }

    public int plan(int request, int point, int times)
            throws NoSuchElementException, IllegalArgumentException {
        Request planned = world.requestAt(request);
        if (!isWithin(point, NO_POINT, AFTER_EFFECT) || !isWithin(times, 0, LAST_TIMES)) {
            throw new IllegalArgumentException("point or times out of range");
        }
        if (planned.isOver()) {
            return -2;
        }
        history.remember(world);
        int previous = planned.point;
        planned.point = point;
        planned.times = times;
        return previous;
    }

    public int kill(int driver) throws NoSuchElementException {
        Driver killed = world.driverAt(driver);
        if (killed.state != RUNNING) {
            return -2;
        }
        history.remember(world);
        world.crash(killed);
        return killed.state;
    }

    public int replace(int driver) throws NoSuchElementException {
        Driver replaced = world.driverAt(driver);
        if (replaced.state != RUNNING) {
            return -2;
        }
        if (replaced.inFlight != NONE) {
            return -3;
        }
        history.remember(world);
        world.snapshot(replaced);
        replaced.goDown(world.clock + world.program.handover);
        return replaced.downUntil;
    }

    public int takeSnapshot(int driver) throws NoSuchElementException {
        Driver taken = world.driverAt(driver);
        if (taken.state != RUNNING) {
            return -2;
        }
        history.remember(world);
        int logged = taken.logSize;
        world.snapshot(taken);
        return logged;
    }

    public int poke(int driver, int register, int value)
            throws NoSuchElementException, IllegalArgumentException {
        Driver poked = world.driverAt(driver);
        int previous = poked.registerAt(register);
        if (!isWithin(value, 0, LAST_STORED)) {
            throw new IllegalArgumentException("value out of range");
        }
        history.remember(world);
        poked.store(register, value);
        return previous;
    }

    public int run(int ticks) throws IllegalArgumentException {
        if (!isWithin(ticks, 0, MOST_TICKS)) {
            throw new IllegalArgumentException("ticks out of range");
        }
        if (world.clock + ticks > LAST_CLOCK) {
            return -4;
        }
        history.remember(world);
        int before = world.completions();
        world.pass(ticks);
        return world.completions() - before;
    }

    public int driverState(int driver) throws NoSuchElementException {
        return world.driverAt(driver).state;
    }

    public int downUntil(int driver) throws NoSuchElementException {
        Driver asked = world.driverAt(driver);
        return asked.state == DOWN ? asked.downUntil : NONE;
    }

    public int streak(int driver) throws NoSuchElementException {
        return world.driverAt(driver).streak;
    }

    public int register(int driver, int register) throws NoSuchElementException {
        return world.driverAt(driver).registerAt(register);
    }

    public int variable(int driver, int variable) throws NoSuchElementException {
        return world.driverAt(driver).variableAt(variable);
    }

    public int saved(int driver, int variable) throws NoSuchElementException {
        return world.driverAt(driver).snapshotAt(variable);
    }

    public int logSize(int driver) throws NoSuchElementException {
        return world.driverAt(driver).logSize;
    }

    public int logged(int driver, int index) throws NoSuchElementException {
        Driver asked = world.driverAt(driver);
        if (index < 0) {
            throw new NoSuchElementException("negative index");
        }
        return asked.logAt(index);
    }

    public int inFlight(int driver) throws NoSuchElementException {
        return world.driverAt(driver).inFlight;
    }

    public int nextRequest(int driver) throws NoSuchElementException {
        return world.nextOf(world.driverAt(driver));
    }

    public int queued(int driver) throws NoSuchElementException {
        return world.driverAt(driver).queueSize;
    }

    public int request(int request, int what) throws NoSuchElementException {
        return world.requestAt(request).valueOf(what);
    }

    public int recordCount() {
        return world.journal.size;
    }

    public int record(int record, int what) throws NoSuchElementException {
        return world.journal.valueAt(record, what);
    }

    public int total(int what) {
        return world.journal.totalOf(what);
    }

    public double availability(int driver) throws NoSuchElementException {
        Driver asked = world.driverAt(driver);
        // The clock starts at 0 and counts every tick, so it is the number of ticks that passed.
        return world.clock == 0 ? 1.0 : (double) asked.ticksUp / world.clock;
    }

    public float meanTime(int driver) throws NoSuchElementException {
        Driver asked = world.driverAt(driver);
        if (asked.completedCount == 0) {
            return 0;
        }
        // By way of double, because a sum above 2^24 would be rounded before it is divided.
        return (float) ((double) asked.completedTime / asked.completedCount);
    }

    public int forecast(int request) throws NoSuchElementException {
        if (world.requestAt(request).isOver()) {
            return 0;
        }
        World copy = freshTrial();
        Request awaited = copy.requestAt(request);
        for (int ticks = 1; ticks <= MOST_TICKS && copy.clock < LAST_CLOCK; ticks++) {
            copy.pass(1);
            if (awaited.isOver()) {
                return ticks;
            }
        }
        return NONE;
    }

    public int bestDelay(int ticks) throws IllegalArgumentException {
        if (!isWithin(ticks, 0, MOST_TRIAL_TICKS) || world.clock + ticks > LAST_CLOCK) {
            throw new IllegalArgumentException("ticks out of range");
        }
        int best = NONE;
        int most = NONE;
        int last = Math.min(MOST_TRIAL_DELAY, world.program.greatestDelay);
        for (int delay = 1; delay <= last; delay++) {
            World copy = freshTrial();
            copy.firstDelay = delay;
            copy.pass(ticks);
            if (copy.completions() > most) {
                most = copy.completions();
                best = delay;
            }
        }
        return best;
    }

    private World freshTrial() {
        if (trial == null) {
            trial = new World(world.program);
        }
        trial.copyFrom(world);
        return trial;
    }

    public int decision(int request) throws NoSuchElementException {
        Request asked = world.requestAt(request);
        return asked.state == IN_FLIGHT ? world.decide(asked) : NONE;
    }

    public int undoCount() {
        return history.count;
    }

    public int undo() {
        return history.takeBack(world);
    }

    public void saveState() {
        if (kept == null) {
            kept = new World(world.program);
        }
        kept.copyFrom(world);
        hasKept = true;
    }

    public boolean restoreState() {
        if (!hasKept || kept == null) {
            return false;
        }
        world.copyFrom(kept);
        history.clear();
        return true;
    }

    public int query(int length) throws IllegalArgumentException {
        if (!isWithin(length, 0, MOST_QUERY_BYTES) || length > fed) {
            throw new IllegalArgumentException("length out of range");
        }
        Reader reader = new Reader(buffer, length, true);
        reader.readQuery();
        fed = 0;
        errorAt = reader.tokens.errorAt;
        if (reader.tokens.error != NO_ERROR) {
            return HIDDEN - reader.tokens.error;
        }
        return reader.asksFirst ? firstMatch(reader.code) : countMatches(reader.code);
    }

    private int countMatches(Code criterion) {
        int[] properties = new int[PROPERTIES];
        int count = 0;
        for (int number = 0; number < world.requestCount; number++) {
            if (world.matches(number, criterion, properties)) {
                count++;
            }
        }
        return count;
    }

    private int firstMatch(Code criterion) {
        int[] properties = new int[PROPERTIES];
        for (int number = 0; number < world.requestCount; number++) {
            if (world.matches(number, criterion, properties)) {
                return number;
            }
        }
        return NONE;
    }

    private static boolean isWithin(int value, int low, int high) {
        return value >= low && value <= high;
    }

    /** All that operations change, and the rules by which it changes. */
    private static final class World {
        Program program;
        int clock = 0;
        int requestCount = 0;
        // Not the program's, because bestDelay tries others on a copy.
        int firstDelay;
        final Driver[] drivers = new Driver[MOST_DRIVERS];
        final Request[] requests = new Request[MOST_REQUESTS];
        final Journal journal = new Journal();

        World(Program program) {
            this.program = program;
            this.firstDelay = program.firstDelay;
            for (int number = 0; number < drivers.length; number++) {
                drivers[number] = new Driver(number);
            }
            for (int number = 0; number < requests.length; number++) {
                requests[number] = new Request(number);
            }
        }

        void copyFrom(World other) {
            program = other.program;
            clock = other.clock;
            requestCount = other.requestCount;
            firstDelay = other.firstDelay;
            for (int number = 0; number < drivers.length; number++) {
                drivers[number].copyFrom(other.drivers[number]);
            }
            // Rows behind the count are made anew when they are used.
            for (int number = 0; number < requestCount && number < requests.length; number++) {
                requests[number].copyFrom(other.requests[number]);
            }
            journal.copyFrom(other.journal);
        }

        Driver driverAt(int number) {
            if (number < 0 || number >= program.driverCount || number >= drivers.length) {
                throw new NoSuchElementException("no such driver");
            }
            return drivers[number];
        }

        Request requestAt(int number) {
            if (number < 0 || number >= requestCount || number >= requests.length) {
                throw new NoSuchElementException("no such request");
            }
            return requests[number];
        }

        int completions() {
            return journal.totalOf(EVENT_COMPLETED);
        }

        Request addRequest(int driver, int command) {
            if (requestCount < requests.length) {
                requestCount++;
            }
            Request request = requestAt(requestCount - 1);
            request.startAnew(driver, command, clock);
            return request;
        }

        void pass(int ticks) {
            for (int tick = 0; tick < ticks; tick++) {
                for (int number = 0; number < program.driverCount && number < drivers.length; number++) {
                    step(drivers[number]);
                }
                clock++;
            }
        }

        private void step(Driver driver) {
            if (driver.state == DOWN && clock >= driver.downUntil) {
                restart(driver);
            }
            if (driver.state != DEAD && clock >= driver.firstDeadline) {
                failLate(driver);
            }
            if (driver.state == RUNNING && driver.inFlight == NONE) {
                begin(driver);
            }
            if (driver.state == RUNNING && driver.inFlight != NONE) {
                work(driver, requestAt(driver.inFlight));
            }
            if (driver.state == RUNNING) {
                driver.ticksUp++;
                if (clock + 1 - driver.started >= program.calm) {
                    driver.streak = 0;
                }
            }
        }

        private void restart(Driver driver) {
            driver.state = RUNNING;
            driver.started = clock;
            journal.add(clock, EVENT_RESTART, driver.number, NONE);
            driver.restoreVariables();
            for (int index = 0; index < driver.logSize; index++) {
                doKeepings(driver, requestAt(driver.logAt(index)));
            }
            if (driver.inFlight == NONE) {
                return;
            }
            Request request = requestAt(driver.inFlight);
            int decision = decide(request);
            if (decision == DECIDED_FAILED) {
                fail(request, UNKNOWN_OUTCOME);
            } else if (decision == DECIDED_COMPLETED) {
                complete(driver, request, resultNow(driver, request));
            } else {
                driver.inFlight = NONE;
                driver.returned = request.number;
                enqueue(driver, request, EVENT_AGAIN);
            }
        }

        int decide(Request request) {
            Command command = program.commandAt(request.command);
            if (command.kind == CLASS_ONCE) {
                return DECIDED_FAILED;
            }
            if (command.kind != CLASS_CHECK) {
                return DECIDED_AGAIN;
            }
            Driver driver = driverAt(request.driver);
            driver.present(request.argument, 0);
            boolean holds = program.code.execute(command.testFrom, command.resultFrom, driver.cells) != 0;
            return holds ? DECIDED_COMPLETED : DECIDED_AGAIN;
        }

        private void failLate(Driver driver) {
            int next = NEVER;
            for (int number = 0; number < requestCount; number++) {
                Request request = requestAt(number);
                if (request.driver == driver.number && request.state == QUEUED) {
                    if (request.deadline() <= clock) {
                        fail(request, TOO_LATE);
                    } else {
                        next = Math.min(next, request.deadline());
                    }
                }
            }
            driver.firstDeadline = next;
        }

        private void begin(Driver driver) {
            int number = nextOf(driver);
            if (number == NONE) {
                return;
            }
            Request request = requestAt(number);
            leaveQueue(driver, request);
            driver.inFlight = number;
            request.state = IN_FLIGHT;
            request.remaining = program.commandAt(request.command).time;
            journal.add(clock, EVENT_BEGUN, driver.number, number);
        }

        int nextOf(Driver driver) {
            if (driver.returned != NONE || driver.queueSize == 0) {
                return driver.returned;
            }
            int best = NONE;
            int bestPriority = NONE;
            for (int number = 0; number < requestCount; number++) {
                Request request = requestAt(number);
                if (request.driver == driver.number && request.state == QUEUED
                        && request.priority > bestPriority) {
                    best = number;
                    bestPriority = request.priority;
                }
            }
            return best;
        }

        private void work(Driver driver, Request request) {
            request.remaining--;
            if (request.remaining > 0) {
                return;
            }
            if (request.takesCrash(BEFORE_EFFECT)) {
                crash(driver);
                return;
            }
            int result = doEffect(driver, request);
            if (request.takesCrash(AFTER_EFFECT)) {
                crash(driver);
            } else {
                complete(driver, request, result);
            }
        }

        private int doEffect(Driver driver, Request request) {
            Command command = program.commandAt(request.command);
            int result = resultNow(driver, request);
            driver.present(request.argument, result);
            program.code.execute(command.setFrom, command.keepFrom, driver.cells);
            request.executions++;
            return result;
        }

        private int resultNow(Driver driver, Request request) {
            Command command = program.commandAt(request.command);
            driver.present(request.argument, 0);
            return program.code.execute(command.resultFrom, command.setFrom, driver.cells);
        }

        private void doKeepings(Driver driver, Request request) {
            Command command = program.commandAt(request.command);
            driver.present(request.argument, request.result);
            program.code.execute(command.keepFrom, command.end, driver.cells);
        }

        private void complete(Driver driver, Request request, int result) {
            driver.inFlight = NONE;
            request.end(COMPLETED, clock);
            request.result = result;
            driver.completedCount++;
            driver.completedTime += clock - request.accepted;
            doKeepings(driver, request);
            driver.addToLog(request.number);
            journal.add(clock, EVENT_COMPLETED, driver.number, request.number);
            if (driver.logSize >= program.interval) {
                snapshot(driver);
            }
        }

        void snapshot(Driver driver) {
            driver.saveVariables();
            driver.logSize = 0;
            journal.add(clock, EVENT_SNAPSHOT, driver.number, NONE);
        }

        void crash(Driver driver) {
            driver.streak++;
            journal.add(clock, EVENT_CRASH, driver.number, NONE);
            if (driver.inFlight != NONE) {
                strike(requestAt(driver.inFlight));
            }
            if (driver.streak > program.streakLimit) {
                die(driver);
            } else {
                driver.goDown(clock + 1 + delayFor(driver.streak));
            }
        }

        private void strike(Request request) {
            request.crashes++;
            request.remaining = 0;
            if (request.crashes >= program.poison) {
                fail(request, POISONED);
            }
        }

        private void die(Driver driver) {
            driver.state = DEAD;
            driver.clearVariables();
            journal.add(clock, EVENT_DEATH, driver.number, NONE);
            for (int number = 0; number < requestCount; number++) {
                Request request = requestAt(number);
                if (request.driver == driver.number && !request.isOver()) {
                    fail(request, DRIVER_DEAD);
                }
            }
        }

        private int delayFor(int streak) {
            int delay = firstDelay;
            for (int crash = 1; crash < streak && delay < program.greatestDelay; crash++) {
                delay = Math.min(delay * 2, program.greatestDelay);
            }
            return delay;
        }

        void fail(Request request, int failure) {
            Driver driver = driverAt(request.driver);
            if (request.state == QUEUED) {
                leaveQueue(driver, request);
            } else {
                driver.inFlight = NONE;
            }
            request.end(FAILED, clock);
            request.failure = failure;
            journal.add(clock, EVENT_FAILED, driver.number, request.number);
        }

        void enqueue(Driver driver, Request request, int event) {
            request.state = QUEUED;
            driver.queueSize++;
            driver.firstDeadline = Math.min(driver.firstDeadline, request.deadline());
            journal.add(clock, event, driver.number, request.number);
        }

        private void leaveQueue(Driver driver, Request request) {
            driver.queueSize--;
            if (driver.returned == request.number) {
                driver.returned = NONE;
            }
        }

        boolean matches(int number, Code criterion, int[] properties) {
            Request request = requestAt(number);
            int kind = program.commandAt(request.command).kind;
            for (int property = 0; property < properties.length; property++) {
                properties[property] = request.propertyOf(property, kind);
            }
            return criterion.execute(0, criterion.size, properties) != 0;
        }
    }

    /** A driver with its device. */
    private static final class Driver {
        final int number;
        int state = RUNNING;
        int downUntil = NONE;
        int started = 0;
        int streak = 0;
        // The registers, the variables, and the argument and result of the request at work.
        final int[] cells = new int[CELLS];
        final int[] snapshot = new int[VARIABLES];
        final int[] log = new int[MOST_LOGGED];
        int logSize = 0;
        int inFlight = NONE;
        int returned = NONE;
        int queueSize = 0;
        // No queued request is too late before this clock; it spares a look at all requests in every tick.
        int firstDeadline = NEVER;
        int ticksUp = 0;
        int completedCount = 0;
        int completedTime = 0;

        Driver(int number) {
            this.number = number;
        }

        void copyFrom(Driver other) {
            state = other.state;
            downUntil = other.downUntil;
            started = other.started;
            streak = other.streak;
            System.arraycopy(other.cells, 0, cells, 0, CELLS);
            System.arraycopy(other.snapshot, 0, snapshot, 0, VARIABLES);
            System.arraycopy(other.log, 0, log, 0, MOST_LOGGED);
            logSize = other.logSize;
            inFlight = other.inFlight;
            returned = other.returned;
            queueSize = other.queueSize;
            firstDeadline = other.firstDeadline;
            ticksUp = other.ticksUp;
            completedCount = other.completedCount;
            completedTime = other.completedTime;
        }

        int registerAt(int index) {
            if (index < 0 || index >= REGISTERS) {
                throw new NoSuchElementException("no such register");
            }
            return cells[index];
        }

        int variableAt(int index) {
            if (index < 0 || index >= VARIABLES) {
                throw new NoSuchElementException("no such variable");
            }
            return cells[FIRST_VARIABLE + index];
        }

        int snapshotAt(int index) {
            if (index < 0 || index >= snapshot.length) {
                throw new NoSuchElementException("no such variable");
            }
            return snapshot[index];
        }

        int logAt(int index) {
            return index >= 0 && index < logSize && index < log.length ? log[index] : NONE;
        }

        void store(int register, int value) {
            if (register >= 0 && register < REGISTERS) {
                cells[register] = value;
            }
        }

        void present(int argument, int result) {
            cells[ARGUMENT_CELL] = argument;
            cells[RESULT_CELL] = result;
        }

        void addToLog(int request) {
            if (logSize < log.length) {
                log[logSize] = request;
                logSize++;
            }
        }

        void goDown(int until) {
            state = DOWN;
            downUntil = until;
            clearVariables();
        }

        void clearVariables() {
            for (int index = 0; index < VARIABLES; index++) {
                cells[FIRST_VARIABLE + index] = 0;
            }
        }

        void saveVariables() {
            System.arraycopy(cells, FIRST_VARIABLE, snapshot, 0, VARIABLES);
        }

        void restoreVariables() {
            System.arraycopy(snapshot, 0, cells, FIRST_VARIABLE, VARIABLES);
        }
    }

    /** A request, from its acceptance to its one end. */
    private static final class Request {
        final int number;
        int driver = 0;
        int command = 0;
        int argument = 0;
        int priority = 0;
        int limit = 0;
        int accepted = 0;
        int state = QUEUED;
        int failure = 0;
        int result = 0;
        int executions = 0;
        int crashes = 0;
        int remaining = 0;
        int point = NO_POINT;
        int times = 0;
        int ended = NONE;

        Request(int number) {
            this.number = number;
        }

        void startAnew(int itsDriver, int itsCommand, int clock) {
            driver = itsDriver;
            command = itsCommand;
            argument = 0;
            priority = 0;
            limit = 0;
            accepted = clock;
            state = QUEUED;
            failure = 0;
            result = 0;
            executions = 0;
            crashes = 0;
            remaining = 0;
            point = NO_POINT;
            times = 0;
            ended = NONE;
        }

        void copyFrom(Request other) {
            driver = other.driver;
            command = other.command;
            argument = other.argument;
            priority = other.priority;
            limit = other.limit;
            accepted = other.accepted;
            state = other.state;
            failure = other.failure;
            result = other.result;
            executions = other.executions;
            crashes = other.crashes;
            remaining = other.remaining;
            point = other.point;
            times = other.times;
            ended = other.ended;
        }

        boolean isOver() {
            return state == COMPLETED || state == FAILED;
        }

        int deadline() {
            return limit == 0 ? NEVER : accepted + limit;
        }

        boolean takesCrash(int here) {
            if (point != here || times <= 0) {
                return false;
            }
            times--;
            return true;
        }

        void end(int itsState, int clock) {
            state = itsState;
            remaining = 0;
            ended = clock;
        }

        int valueOf(int what) {
            switch (what) {
                case 0: return driver;
                case 1: return command;
                case 2: return argument;
                case 3: return priority;
                case 4: return limit;
                case 5: return accepted;
                case 6: return state;
                case 7: return failure;
                case 8: return result;
                case 9: return executions;
                case 10: return crashes;
                case 11: return remaining;
                case 12: return point;
                case 13: return times;
                case 14: return ended;
                default: throw new NoSuchElementException("no such property");
            }
        }

        /** The properties of a query, by the numbers that the words have. */
        int propertyOf(int property, int kind) {
            switch (property) {
                case 0: return number;
                case 1: return driver;
                case 2: return command;
                case 3: return kind;
                case 4: return argument;
                case 5: return priority;
                case 6: return state;
                case 7: return failure;
                case 8: return result;
                case 9: return executions;
                case 10: return crashes;
                default: return 0;
            }
        }
    }

    /** The latest records in a ring, and the totals of all. */
    private static final class Journal {
        final int[] clocks = new int[MOST_RECORDS];
        final int[] events = new int[MOST_RECORDS];
        final int[] drivers = new int[MOST_RECORDS];
        final int[] requests = new int[MOST_RECORDS];
        final int[] totals = new int[EVENTS];
        int oldest = 0;
        int size = 0;

        void copyFrom(Journal other) {
            System.arraycopy(other.clocks, 0, clocks, 0, MOST_RECORDS);
            System.arraycopy(other.events, 0, events, 0, MOST_RECORDS);
            System.arraycopy(other.drivers, 0, drivers, 0, MOST_RECORDS);
            System.arraycopy(other.requests, 0, requests, 0, MOST_RECORDS);
            System.arraycopy(other.totals, 0, totals, 0, EVENTS);
            oldest = other.oldest;
            size = other.size;
        }

        void add(int clock, int event, int driver, int request) {
            int slot = (oldest + size) % MOST_RECORDS;
            clocks[slot] = clock;
            events[slot] = event;
            drivers[slot] = driver;
            requests[slot] = request;
            if (size < MOST_RECORDS) {
                size++;
            } else {
                oldest = (oldest + 1) % MOST_RECORDS;
            }
            if (event >= 0 && event < totals.length) {
                totals[event]++;
            }
        }

        int valueAt(int index, int what) {
            if (index < 0 || index >= size) {
                throw new NoSuchElementException("no such record");
            }
            int slot = (oldest + index) % MOST_RECORDS;
            switch (what) {
                case 0: return clocks[slot];
                case 1: return events[slot];
                case 2: return drivers[slot];
                case 3: return requests[slot];
                default: throw new NoSuchElementException("no such property");
            }
        }

        int totalOf(int event) {
            return event >= 0 && event < totals.length ? totals[event] : NONE;
        }
    }

    /** The worlds before the latest operations, in a ring whose rows are made once. */
    private static final class History {
        final World[] worlds = new World[MOST_UNDOS];
        int next = 0;
        int count = 0;

        void clear() {
            count = 0;
        }

        void remember(World world) {
            World row = worlds[next];
            if (row == null) {
                row = new World(world.program);
                worlds[next] = row;
            }
            row.copyFrom(world);
            next = (next + 1) % MOST_UNDOS;
            count = Math.min(count + 1, MOST_UNDOS);
        }

        int takeBack(World world) {
            if (count == 0) {
                return NONE;
            }
            next = (next + MOST_UNDOS - 1) % MOST_UNDOS;
            count--;
            World row = worlds[next];
            if (row != null) {
                world.copyFrom(row);
            }
            return count;
        }
    }

    /** What a text says; at first what holds without clauses. */
    private static final class Program {
        int driverCount = 1;
        int commandCount = 0;
        final Command[] commands = new Command[MOST_COMMANDS];
        int firstDelay = 2;
        int greatestDelay = 32;
        int calm = 20;
        int streakLimit = 5;
        int poison = 3;
        int interval = 4;
        int handover = 1;
        final Code code;

        Program(int length) {
            code = new Code(length);
        }

        Command commandAt(int number) {
            Command command = number < 0 || number >= commandCount || number >= commands.length
                    ? null : commands[number];
            if (command == null) {
                throw new NoSuchElementException("no such command");
            }
            return command;
        }

        void addCommand(Command command) {
            if (commandCount < commands.length) {
                commands[commandCount] = command;
                commandCount++;
            }
        }
    }

    /** A command; its test, result, settings and keepings stand one behind the other in the code. */
    private static final class Command {
        int nameToken = NONE;
        int kind = 0;
        int time = 1;
        int testFrom = 0;
        int resultFrom = 0;
        int setFrom = 0;
        int keepFrom = 0;
        int end = 0;
    }

    /** Expressions with the operators behind their operands, so that long sums need no recursion. */
    private static final class Code {
        final int[] ops;
        final int[] operands;
        int size = 0;
        final int[] stack = new int[STACK_SIZE];

        /** Every instruction stems from a token of its own, so there are never more than bytes. */
        Code(int length) {
            ops = new int[Math.max(length, 0)];
            operands = new int[Math.max(length, 0)];
        }

        void add(int op, int operand) {
            if (size < ops.length && size < operands.length) {
                ops[size] = op;
                operands[size] = operand;
                size++;
            }
        }

        /** Answers the value that is left, 0 if there is none (as with a missing result). */
        int execute(int from, int end, int[] cells) {
            int top = 0;
            for (int at = Math.max(from, 0); at < end && at < size; at++) {
                int op = ops[at];
                int operand = operands[at];
                if (op == OP_NUMBER || op == OP_CELL) {
                    if (top < stack.length) {
                        stack[top] = op == OP_NUMBER ? operand : cellAt(cells, operand);
                        top++;
                    }
                } else if (op == OP_STORE) {
                    if (top > 0 && operand >= 0 && operand < cells.length) {
                        top--;
                        cells[operand] = stack[top] & LAST_STORED;
                    }
                } else if (op == OP_NOT) {
                    if (top > 0) {
                        stack[top - 1] = 1 - stack[top - 1];
                    }
                } else if (top > 1) {
                    top--;
                    stack[top - 1] = join(op, stack[top - 1], stack[top]);
                }
            }
            return top > 0 ? stack[top - 1] : 0;
        }

        private static int cellAt(int[] cells, int index) {
            return index >= 0 && index < cells.length ? cells[index] : 0;
        }

        private static int join(int op, int left, int right) {
            switch (op) {
                case OP_ADD: return left + right;
                case OP_SUBTRACT: return left - right;
                case OP_MULTIPLY: return left * right;
                case OP_LESS: return left < right ? 1 : 0;
                case OP_EQUAL: return left == right ? 1 : 0;
                case OP_GREATER: return left > right ? 1 : 0;
                case OP_AND: return left & right;
                case OP_OR: return left | right;
                default: return 0;
            }
        }
    }

    /** The words that the two grammars quote; no command may have one as its name. */
    private enum Word {
        DRIVERS("drivers"), COMMAND("command"), TIME("time"), SET("set"), KEEP("keep"),
        OR("or"), AND("and"), NOT("not"), REG("reg"), VAR("var"), ARG("arg"), RES("res"),
        MANY("many"), FIRST("first"),
        DELAY("delay", true, NONE, NONE), CALM("calm", true, NONE, NONE),
        STREAK("streak", true, NONE, NONE), POISON("poison", true, NONE, NONE),
        EVERY("every", true, NONE, NONE), HANDOVER("handover", true, NONE, NONE),
        PURE("pure", false, CLASS_PURE, NONE), AGAIN("again", false, CLASS_AGAIN, NONE),
        ONCE("once", false, CLASS_ONCE, NONE), CHECK("check", false, CLASS_CHECK, NONE),
        NUMBER("number", false, NONE, 0), DRIVER("driver", false, NONE, 1),
        KIND("kind", false, NONE, 2), CLASS("class", false, NONE, 3),
        ARGUMENT("argument", false, NONE, 4), PRIORITY("priority", false, NONE, 5),
        STATE("state", false, NONE, 6), FAILURE("failure", false, NONE, 7),
        RESULT("result", false, NONE, 8), EXECUTIONS("executions", false, NONE, 9),
        CRASHES("crashes", false, NONE, 10);

        private static final Word[] ALL = values();

        final String letters;
        // A clause of the text with numbers alone.
        final boolean isSetting;
        final int commandClass;
        final int property;

        Word(String letters) {
            this(letters, false, NONE, NONE);
        }

        Word(String letters, boolean isSetting, int commandClass, int property) {
            this.letters = letters;
            this.isSetting = isSetting;
            this.commandClass = commandClass;
            this.property = property;
        }

        /** Answers null for a word that is not quoted. */
        static Word find(byte[] text, int from, int end) {
            for (int index = 0; index < ALL.length; index++) {
                if (ALL[index].stands(text, from, end)) {
                    return ALL[index];
                }
            }
            return null;
        }

        private boolean stands(byte[] text, int from, int end) {
            if (from < 0 || end > text.length || end - from != letters.length()) {
                return false;
            }
            for (int index = 0; index < letters.length(); index++) {
                if (text[from + index] != letters.charAt(index)) {
                    return false;
                }
            }
            return true;
        }
    }

    /** The tokens of a text, all found before the first one is looked at. */
    private static final class Tokens {
        final byte[] text;
        final int length;
        final int[] kinds;
        final int[] froms;
        final int[] ends;
        // The number, or the byte of a sign; a byte that is no token is a sign that no grammar asks for.
        final int[] values;
        final Word[] words;
        int count = 0;
        int at = 0;
        int error = NO_ERROR;
        int errorAt = NONE;

        Tokens(byte[] text, int length) {
            this.text = text;
            this.length = Math.max(0, Math.min(length, text.length));
            this.kinds = new int[this.length];
            this.froms = new int[this.length];
            this.ends = new int[this.length];
            this.values = new int[this.length];
            this.words = new Word[this.length];
        }

        void scan() {
            int end = 0;
            for (int from = 0; from < length; from++) {
                if (from >= end && text[from] != ' ' && text[from] != '\n') {
                    end = endOf(from);
                    add(from, end);
                }
            }
        }

        private int endOf(int from) {
            int end = from + 1;
            if (isLetter(text[from])) {
                while (end < length && isLetter(text[end])) {
                    end++;
                }
            } else if (isDigit(text[from])) {
                while (end < length && isDigit(text[end])) {
                    end++;
                }
            }
            return end;
        }

        private void add(int from, int end) {
            if (count >= length) {
                return;
            }
            froms[count] = from;
            ends[count] = end;
            if (isLetter(text[from])) {
                kinds[count] = TOKEN_WORD;
                words[count] = Word.find(text, from, end);
            } else if (isDigit(text[from])) {
                kinds[count] = TOKEN_NUMBER;
                values[count] = numberOf(from, end);
            } else {
                kinds[count] = TOKEN_SIGN;
                values[count] = text[from];
            }
            count++;
        }

        private int numberOf(int from, int end) {
            int number = 0;
            for (int index = from; index < end && index < length; index++) {
                number = Math.min(number * 10 + text[index] - '0', NUMBER_CAP);
            }
            return number;
        }

        private static boolean isLetter(byte value) {
            return value >= 'a' && value <= 'z';
        }

        private static boolean isDigit(byte value) {
            return value >= '0' && value <= '9';
        }

        void advance() {
            if (at < count) {
                at++;
            }
        }

        boolean atEnd() {
            return at >= count;
        }

        /** The quoted word that is the present token; null if it is none. */
        Word word() {
            return at < count ? words[at] : null;
        }

        int number() {
            return at < count ? values[at] : 0;
        }

        boolean isNumber() {
            return at < count && kinds[at] == TOKEN_NUMBER;
        }

        boolean isSign(char wanted) {
            return at < count && kinds[at] == TOKEN_SIGN && values[at] == wanted;
        }

        boolean isWord(Word wanted) {
            return at < count && words[at] == wanted;
        }

        boolean isName() {
            return at < count && kinds[at] == TOKEN_WORD && words[at] == null;
        }

        /** Only the first error counts, and nothing behind it is looked at. */
        void refuse(int itsError) {
            if (error == NO_ERROR) {
                error = itsError;
                errorAt = at < count ? froms[at] : length;
                at = count;
            }
        }

        boolean areSame(int one, int other) {
            if (one < 0 || one >= count || other < 0 || other >= count
                    || ends[one] - froms[one] != ends[other] - froms[other]) {
                return false;
            }
            for (int index = 0; index < ends[one] - froms[one]; index++) {
                if (text[froms[one] + index] != text[froms[other] + index]) {
                    return false;
                }
            }
            return true;
        }
    }

    /** Reads a text or a query; from its first error on it finds nothing but the end. */
    private static final class Reader {
        final Tokens tokens;
        final boolean asking;
        final Program program;
        final Code code;
        boolean asksFirst = false;
        int open = 0;
        int place = IN_TEST;

        Reader(byte[] text, int length, boolean asking) {
            this.tokens = new Tokens(text, length);
            this.asking = asking;
            this.program = new Program(length);
            this.code = program.code;
        }

        void readText() {
            tokens.scan();
            takeWord(Word.DRIVERS);
            program.driverCount = takeNumber(1, MOST_DRIVERS);
            takeSign(';');
            for (int count = 0; count < MOST_TOKENS && !tokens.atEnd(); count++) {
                readClause();
                takeSign(';');
            }
        }

        void readQuery() {
            tokens.scan();
            asksFirst = tokens.isWord(Word.FIRST);
            takeWord(asksFirst ? Word.FIRST : Word.MANY);
            readTest();
            if (!tokens.atEnd()) {
                tokens.refuse(ERROR_TOKEN);
            }
        }

        private void takeWord(Word wanted) {
            if (tokens.isWord(wanted)) {
                tokens.advance();
            } else {
                tokens.refuse(ERROR_TOKEN);
            }
        }

        private void takeSign(char wanted) {
            if (tokens.isSign(wanted)) {
                tokens.advance();
            } else {
                tokens.refuse(ERROR_TOKEN);
            }
        }

        private int takeNumber(int low, int high) {
            int number = tokens.number();
            if (!tokens.isNumber()) {
                tokens.refuse(ERROR_TOKEN);
                return low;
            }
            if (number < low || number > high) {
                tokens.refuse(ERROR_RANGE);
                return low;
            }
            tokens.advance();
            return number;
        }

        private void readClause() {
            Word word = tokens.word();
            if (word == Word.COMMAND) {
                readCommand();
                return;
            }
            if (word == null || !word.isSetting) {
                tokens.refuse(ERROR_TOKEN);
                return;
            }
            tokens.advance();
            if (word == Word.DELAY) {
                program.firstDelay = takeNumber(1, 100);
                program.greatestDelay = takeNumber(program.firstDelay, 1000);
            } else if (word == Word.CALM) {
                program.calm = takeNumber(1, 1000);
            } else if (word == Word.STREAK) {
                program.streakLimit = takeNumber(0, 20);
            } else if (word == Word.POISON) {
                program.poison = takeNumber(1, 20);
            } else if (word == Word.EVERY) {
                program.interval = takeNumber(1, MOST_LOGGED);
            } else {
                program.handover = takeNumber(1, 50);
            }
        }

        private void readCommand() {
            if (program.commandCount >= MOST_COMMANDS) {
                tokens.refuse(ERROR_TOO_MANY);
                return;
            }
            tokens.advance();
            Command command = new Command();
            readName(command);
            readClass(command);
            command.testFrom = code.size;
            if (command.kind == CLASS_CHECK) {
                place = IN_TEST;
                readTest();
            }
            takeWord(Word.TIME);
            command.time = takeNumber(1, 50);
            command.resultFrom = code.size;
            if (tokens.isWord(Word.RESULT)) {
                tokens.advance();
                place = IN_RESULT;
                readSum();
            }
            command.setFrom = code.size;
            place = IN_SET;
            readStores(Word.SET, 0, REGISTERS);
            command.keepFrom = code.size;
            place = IN_KEEP;
            readStores(Word.KEEP, FIRST_VARIABLE, VARIABLES);
            command.end = code.size;
            program.addCommand(command);
        }

        private void readName(Command command) {
            if (!tokens.isName()) {
                tokens.refuse(ERROR_TOKEN);
                return;
            }
            for (int number = 0; number < program.commandCount; number++) {
                if (tokens.areSame(program.commandAt(number).nameToken, tokens.at)) {
                    tokens.refuse(ERROR_NAME);
                    return;
                }
            }
            command.nameToken = tokens.at;
            tokens.advance();
        }

        private void readClass(Command command) {
            Word word = tokens.word();
            if (word == null || word.commandClass == NONE) {
                tokens.refuse(ERROR_TOKEN);
                return;
            }
            command.kind = word.commandClass;
            tokens.advance();
        }

        private void readStores(Word start, int firstCell, int cells) {
            for (int count = 0; count < MOST_TOKENS && tokens.isWord(start); count++) {
                tokens.advance();
                int index = takeNumber(0, cells - 1);
                takeSign('=');
                readSum();
                code.add(OP_STORE, firstCell + index);
            }
        }

        private void readTest() {
            readConjunction();
            for (int count = 0; count < MOST_TOKENS && tokens.isWord(Word.OR); count++) {
                tokens.advance();
                readConjunction();
                code.add(OP_OR, 0);
            }
        }

        private void readConjunction() {
            readFactor();
            for (int count = 0; count < MOST_TOKENS && tokens.isWord(Word.AND); count++) {
                tokens.advance();
                readFactor();
                code.add(OP_AND, 0);
            }
        }

        private void readFactor() {
            if (tokens.isWord(Word.NOT)) {
                if (opens()) {
                    readFactor();
                    code.add(OP_NOT, 0);
                    open--;
                }
            } else if (tokens.isSign(asking ? '(' : '[')) {
                if (opens()) {
                    readTest();
                    takeSign(asking ? ')' : ']');
                    open--;
                }
            } else if (asking) {
                readProperty();
                int op = takeComparison();
                readProperty();
                code.add(op, 0);
            } else {
                readSum();
                int op = takeComparison();
                readSum();
                code.add(op, 0);
            }
        }

        /** Steps over a 'not' or a bracket, unless too many are open already. */
        private boolean opens() {
            if (open >= MOST_OPEN) {
                tokens.refuse(ERROR_TOO_MANY);
                return false;
            }
            open++;
            tokens.advance();
            return true;
        }

        private int takeComparison() {
            int op = tokens.isSign('<') ? OP_LESS : tokens.isSign('>') ? OP_GREATER : OP_EQUAL;
            if (op == OP_EQUAL && !tokens.isSign('=')) {
                tokens.refuse(ERROR_TOKEN);
            }
            tokens.advance();
            return op;
        }

        private void readProperty() {
            Word word = tokens.word();
            if (tokens.isNumber()) {
                code.add(OP_NUMBER, takeNumber(0, LAST_QUERY_NUMBER));
            } else if (word != null && word.property != NONE) {
                code.add(OP_CELL, word.property);
                tokens.advance();
            } else {
                tokens.refuse(ERROR_TOKEN);
            }
        }

        private void readSum() {
            readProduct();
            for (int count = 0; count < MOST_TOKENS && (tokens.isSign('+') || tokens.isSign('-')); count++) {
                int op = tokens.isSign('+') ? OP_ADD : OP_SUBTRACT;
                tokens.advance();
                readProduct();
                code.add(op, 0);
            }
        }

        private void readProduct() {
            readOperand();
            for (int count = 0; count < MOST_TOKENS && tokens.isSign('*'); count++) {
                tokens.advance();
                readOperand();
                code.add(OP_MULTIPLY, 0);
            }
        }

        private void readOperand() {
            if (tokens.isNumber()) {
                code.add(OP_NUMBER, takeNumber(0, LAST_STORED));
            } else if (tokens.isSign('(')) {
                if (opens()) {
                    readSum();
                    takeSign(')');
                    open--;
                }
            } else if (tokens.isWord(Word.REG) && place != IN_KEEP) {
                tokens.advance();
                code.add(OP_CELL, takeNumber(0, REGISTERS - 1));
            } else if (tokens.isWord(Word.VAR) && place != IN_TEST) {
                tokens.advance();
                code.add(OP_CELL, FIRST_VARIABLE + takeNumber(0, VARIABLES - 1));
            } else if (tokens.isWord(Word.ARG)) {
                tokens.advance();
                code.add(OP_CELL, ARGUMENT_CELL);
            } else if (tokens.isWord(Word.RES) && (place == IN_SET || place == IN_KEEP)) {
                tokens.advance();
                code.add(OP_CELL, RESULT_CELL);
            } else {
                tokens.refuse(ERROR_TOKEN);
            }
        }
    }
}
