import java.util.ArrayList;
import java.util.HashSet;
import java.util.List;
import java.util.NoSuchElementException;
import java.util.Set;
import java.util.regex.Matcher;
import java.util.regex.Pattern;

/** A second, slow reading of the document, to be compared with DriverHost: no counters, no rings, full copies. */
final class Model {
    interface Sum {
        int of(int[] reg, int[] var, int arg, int res);
    }

    interface Test {
        boolean of(int[] reg, int arg);
    }

    interface Value {
        int of(Req r);
    }

    interface Criterion {
        boolean of(Req r);
    }

    static final class Bad extends RuntimeException {
        final int code;
        final int at;

        Bad(int code, int at) {
            this.code = code;
            this.at = at;
        }
    }

    static final class Store {
        int index;
        Sum sum;
    }

    static final class Cmd {
        String name;
        int kind;
        int time;
        Test test;
        Sum result = (reg, var, arg, res) -> 0;
        List<Store> sets = new ArrayList<>();
        List<Store> keeps = new ArrayList<>();
    }

    static final class Conf {
        int drivers = 1;
        List<Cmd> commands = new ArrayList<>();
        int first = 2;
        int greatest = 32;
        int calm = 20;
        int streak = 5;
        int poison = 3;
        int every = 4;
        int handover = 1;
    }

    static final class Req implements Cloneable {
        int number;
        int driver;
        int command;
        int argument;
        int priority;
        int limit;
        int accepted;
        int state;
        int failure;
        int result;
        int executions;
        int crashes;
        int remaining;
        int point;
        int times;
        int ended = -1;

        Req copy() {
            try {
                return (Req) clone();
            } catch (CloneNotSupportedException e) {
                throw new AssertionError(e);
            }
        }
    }

    static final class Drv {
        int state;
        int until;
        int started;
        int streak;
        int up;
        int flying = -1;
        int returned = -1;
        int[] reg = new int[8];
        int[] var = new int[4];
        int[] snap = new int[4];
        List<Integer> log = new ArrayList<>();

        Drv copy() {
            Drv d = new Drv();
            d.state = state;
            d.until = until;
            d.started = started;
            d.streak = streak;
            d.up = up;
            d.flying = flying;
            d.returned = returned;
            d.reg = reg.clone();
            d.var = var.clone();
            d.snap = snap.clone();
            d.log = new ArrayList<>(log);
            return d;
        }
    }

    static final class St {
        int clock;
        int first;
        List<Drv> drivers = new ArrayList<>();
        List<Req> requests = new ArrayList<>();
        List<int[]> records = new ArrayList<>();

        St copy() {
            St s = new St();
            s.clock = clock;
            s.first = first;
            for (Drv d : drivers) {
                s.drivers.add(d.copy());
            }
            for (Req r : requests) {
                s.requests.add(r.copy());
            }
            s.records.addAll(records);
            return s;
        }
    }

    List<Byte> bytes = new ArrayList<>();
    int error = -1;
    Conf conf = new Conf();
    St st = fresh(conf);
    List<St> past = new ArrayList<>();
    St kept = null;

    static St fresh(Conf conf) {
        St s = new St();
        s.first = conf.first;
        for (int i = 0; i < conf.drivers; i++) {
            s.drivers.add(new Drv());
        }
        return s;
    }

    // ---- reading

    private static final Set<String> QUOTED = new HashSet<>(List.of(("drivers command time result set keep delay"
            + " calm streak poison every handover pure again once check or and not reg var arg res many first number"
            + " driver kind class argument priority state failure executions crashes").split(" ")));

    private final List<String> toks = new ArrayList<>();
    private final List<Integer> ats = new ArrayList<>();
    private int here;
    private int open;

    private void cut(String text) {
        toks.clear();
        ats.clear();
        here = 0;
        open = 0;
        Matcher m = Pattern.compile("[a-z]+|[0-9]+|[^ \n]", Pattern.DOTALL).matcher(text);
        while (m.find()) {
            toks.add(m.group());
            ats.add(m.start());
        }
        toks.add("");
        ats.add(text.length());
    }

    private String tok() {
        return toks.get(here);
    }

    private Bad bad(int code) {
        return new Bad(code, ats.get(here));
    }

    private void eat(String s) {
        if (!tok().equals(s)) {
            throw bad(1);
        }
        here++;
    }

    private boolean may(String s) {
        if (tok().equals(s)) {
            here++;
            return true;
        }
        return false;
    }

    private int num(int low, int high) {
        if (!tok().matches("[0-9]+")) {
            throw bad(1);
        }
        java.math.BigInteger v = new java.math.BigInteger(tok());
        if (v.compareTo(java.math.BigInteger.valueOf(low)) < 0
                || v.compareTo(java.math.BigInteger.valueOf(high)) > 0) {
            throw bad(2);
        }
        here++;
        return v.intValue();
    }

    private void opening() {
        if (open == 6) {
            throw bad(3);
        }
        open++;
        here++;
    }

    private Conf text(String s) {
        cut(s);
        Conf c = new Conf();
        eat("drivers");
        c.drivers = num(1, 4);
        eat(";");
        while (!tok().equals("")) {
            switch (tok()) {
                case "command" -> command(c);
                case "delay" -> {
                    here++;
                    c.first = num(1, 100);
                    c.greatest = num(c.first, 1000);
                }
                case "calm" -> c.calm = one(1, 1000);
                case "streak" -> c.streak = one(0, 20);
                case "poison" -> c.poison = one(1, 20);
                case "every" -> c.every = one(1, 20);
                case "handover" -> c.handover = one(1, 50);
                default -> throw bad(1);
            }
            eat(";");
        }
        return c;
    }

    private int one(int low, int high) {
        here++;
        return num(low, high);
    }

    private void command(Conf c) {
        if (c.commands.size() == 8) {
            throw bad(3);
        }
        here++;
        Cmd cmd = new Cmd();
        cmd.name = tok();
        if (!cmd.name.matches("[a-z]+") || QUOTED.contains(cmd.name)) {
            throw bad(1);
        }
        for (Cmd other : c.commands) {
            if (other.name.equals(cmd.name)) {
                throw bad(4);
            }
        }
        here++;
        cmd.kind = List.of("pure", "again", "once", "check").indexOf(tok());
        if (cmd.kind < 0) {
            throw bad(1);
        }
        here++;
        if (cmd.kind == 3) {
            cmd.test = test();
        }
        eat("time");
        cmd.time = num(1, 50);
        if (may("result")) {
            cmd.result = sum("reg var arg");
        }
        while (may("set")) {
            cmd.sets.add(store(7, "reg var arg res"));
        }
        while (may("keep")) {
            cmd.keeps.add(store(3, "var arg res"));
        }
        c.commands.add(cmd);
    }

    private Store store(int last, String allowed) {
        Store s = new Store();
        s.index = num(0, last);
        eat("=");
        s.sum = sum(allowed);
        return s;
    }

    private Test test() {
        List<Test> parts = new ArrayList<>();
        do {
            parts.add(conjunction());
        } while (may("or"));
        return (reg, arg) -> parts.stream().anyMatch(t -> t.of(reg, arg));
    }

    private Test conjunction() {
        List<Test> parts = new ArrayList<>();
        do {
            parts.add(factor());
        } while (may("and"));
        return (reg, arg) -> parts.stream().allMatch(t -> t.of(reg, arg));
    }

    private Test factor() {
        if (tok().equals("not")) {
            opening();
            Test inner = factor();
            open--;
            return (reg, arg) -> !inner.of(reg, arg);
        }
        if (tok().equals("[")) {
            opening();
            Test inner = test();
            eat("]");
            open--;
            return inner;
        }
        Sum left = sum("reg arg");
        String sign = comparison();
        Sum right = sum("reg arg");
        return (reg, arg) -> compare(sign, left.of(reg, null, arg, 0), right.of(reg, null, arg, 0));
    }

    private String comparison() {
        String sign = tok();
        if (!sign.equals("<") && !sign.equals("=") && !sign.equals(">")) {
            throw bad(1);
        }
        here++;
        return sign;
    }

    private static boolean compare(String sign, int a, int b) {
        return sign.equals("<") ? a < b : sign.equals(">") ? a > b : a == b;
    }

    private Sum sum(String allowed) {
        Sum total = product(allowed);
        while (tok().equals("+") || tok().equals("-")) {
            int factor = tok().equals("+") ? 1 : -1;
            here++;
            Sum left = total;
            Sum right = product(allowed);
            total = (g, v, a, r) -> left.of(g, v, a, r) + factor * right.of(g, v, a, r);
        }
        return total;
    }

    private Sum product(String allowed) {
        Sum total = operand(allowed);
        while (may("*")) {
            Sum left = total;
            Sum right = operand(allowed);
            total = (g, v, a, r) -> left.of(g, v, a, r) * right.of(g, v, a, r);
        }
        return total;
    }

    private Sum operand(String allowed) {
        String t = tok();
        if (t.equals("(")) {
            opening();
            Sum inner = sum(allowed);
            eat(")");
            open--;
            return inner;
        }
        if (t.matches("[0-9]+")) {
            int n = num(0, 65535);
            return (g, v, a, r) -> n;
        }
        if (t.equals("") || !List.of(allowed.split(" ")).contains(t)) {
            throw bad(1);
        }
        here++;
        if (t.equals("reg")) {
            int n = num(0, 7);
            return (g, v, a, r) -> g[n];
        }
        if (t.equals("var")) {
            int n = num(0, 3);
            return (g, v, a, r) -> v[n];
        }
        return t.equals("arg") ? (g, v, a, r) -> a : (g, v, a, r) -> r;
    }

    private Criterion criterion() {
        List<Criterion> parts = new ArrayList<>();
        do {
            parts.add(part());
        } while (may("or"));
        return r -> parts.stream().anyMatch(c -> c.of(r));
    }

    private Criterion part() {
        List<Criterion> parts = new ArrayList<>();
        do {
            parts.add(atom());
        } while (may("and"));
        return r -> parts.stream().allMatch(c -> c.of(r));
    }

    private Criterion atom() {
        if (tok().equals("not")) {
            opening();
            Criterion inner = atom();
            open--;
            return r -> !inner.of(r);
        }
        if (tok().equals("(")) {
            opening();
            Criterion inner = criterion();
            eat(")");
            open--;
            return inner;
        }
        Value left = value();
        String sign = comparison();
        Value right = value();
        return r -> compare(sign, left.of(r), right.of(r));
    }

    private Value value() {
        if (tok().matches("[0-9]+")) {
            int n = num(0, 99999);
            return r -> n;
        }
        Value v = switch (tok()) {
            case "number" -> r -> r.number;
            case "driver" -> r -> r.driver;
            case "kind" -> r -> r.command;
            case "class" -> r -> conf.commands.get(r.command).kind;
            case "argument" -> r -> r.argument;
            case "priority" -> r -> r.priority;
            case "state" -> r -> r.state;
            case "failure" -> r -> r.failure;
            case "result" -> r -> r.result;
            case "executions" -> r -> r.executions;
            case "crashes" -> r -> r.crashes;
            default -> throw bad(1);
        };
        here++;
        return v;
    }

    private String head(int length) {
        StringBuilder b = new StringBuilder();
        for (int i = 0; i < length; i++) {
            b.append((char) (bytes.get(i) & 255));
        }
        bytes.clear();
        return b.toString();
    }

    // ---- the rules

    private Req req(St s, int n) {
        return s.requests.get(n);
    }

    private Cmd cmd(Req r) {
        return conf.commands.get(r.command);
    }

    private void note(St s, int event, int driver, int request) {
        s.records.add(new int[] {s.clock, event, driver, request});
    }

    private void fail(St s, Req r, int why) {
        Drv d = s.drivers.get(r.driver);
        if (d.flying == r.number) {
            d.flying = -1;
        }
        if (d.returned == r.number) {
            d.returned = -1;
        }
        r.state = 3;
        r.failure = why;
        r.ended = s.clock;
        note(s, 3, r.driver, r.number);
    }

    private static int mod(int value) {
        return Math.floorMod(value, 65536);
    }

    private void keep(Drv d, Req r) {
        for (Store k : cmd(r).keeps) {
            d.var[k.index] = mod(k.sum.of(d.reg, d.var, r.argument, r.result));
        }
    }

    private void snap(St s, int n) {
        Drv d = s.drivers.get(n);
        d.snap = d.var.clone();
        d.log.clear();
        note(s, 6, n, -1);
    }

    private void complete(St s, Req r, int result) {
        Drv d = s.drivers.get(r.driver);
        r.state = 2;
        r.result = result;
        r.ended = s.clock;
        d.flying = -1;
        keep(d, r);
        d.log.add(r.number);
        note(s, 2, r.driver, r.number);
        if (d.log.size() == conf.every) {
            snap(s, r.driver);
        }
    }

    private void crash(St s, int n) {
        Drv d = s.drivers.get(n);
        d.streak++;
        d.var = new int[4];
        note(s, 4, n, -1);
        if (d.flying >= 0) {
            Req r = req(s, d.flying);
            r.crashes++;
            if (r.crashes == conf.poison) {
                fail(s, r, 3);
            }
        }
        if (d.streak > conf.streak) {
            d.state = 2;
            note(s, 8, n, -1);
            for (Req r : s.requests) {
                if (r.driver == n && r.state < 2) {
                    fail(s, r, 5);
                }
            }
        } else {
            long delay = Math.min((long) s.first << (d.streak - 1), conf.greatest);
            d.state = 1;
            d.until = s.clock + 1 + (int) delay;
        }
    }

    private int decide(St s, Req r) {
        Cmd c = cmd(r);
        if (c.kind == 3) {
            return c.test.of(s.drivers.get(r.driver).reg, r.argument) ? 1 : 0;
        }
        return c.kind == 2 ? 2 : 0;
    }

    private void restart(St s, int n) {
        Drv d = s.drivers.get(n);
        d.state = 0;
        d.started = s.clock;
        note(s, 5, n, -1);
        d.var = d.snap.clone();
        for (int logged : d.log) {
            keep(d, req(s, logged));
        }
        if (d.flying < 0) {
            return;
        }
        Req r = req(s, d.flying);
        switch (decide(s, r)) {
            case 0 -> {
                r.state = 0;
                d.flying = -1;
                d.returned = r.number;
                note(s, 7, n, r.number);
            }
            case 1 -> complete(s, r, cmd(r).result.of(d.reg, d.var, r.argument, 0));
            default -> fail(s, r, 2);
        }
    }

    private int next(St s, int n) {
        Drv d = s.drivers.get(n);
        if (d.returned >= 0) {
            return d.returned;
        }
        return s.requests.stream().filter(r -> r.driver == n && r.state == 0)
                .sorted((a, b) -> a.priority != b.priority ? b.priority - a.priority : a.number - b.number)
                .mapToInt(r -> r.number).findFirst().orElse(-1);
    }

    private void tick(St s) {
        for (int n = 0; n < conf.drivers; n++) {
            Drv d = s.drivers.get(n);
            if (d.state == 1 && s.clock >= d.until) {
                restart(s, n);
            }
            if (d.state != 2) {
                for (Req r : s.requests) {
                    if (r.driver == n && r.state == 0 && r.limit > 0 && s.clock - r.accepted >= r.limit) {
                        fail(s, r, 1);
                    }
                }
            }
            int next = next(s, n);
            if (d.state == 0 && d.flying < 0 && next >= 0) {
                Req r = req(s, next);
                r.state = 1;
                r.remaining = cmd(r).time;
                d.flying = next;
                d.returned = -1;
                note(s, 1, n, next);
            }
            if (d.state == 0 && d.flying >= 0) {
                advance(s, n, req(s, d.flying));
            }
            if (d.state == 0) {
                d.up++;
                if (s.clock + 1 - d.started >= conf.calm) {
                    d.streak = 0;
                }
            }
        }
        s.clock++;
    }

    private void advance(St s, int n, Req r) {
        Drv d = s.drivers.get(n);
        if (--r.remaining > 0) {
            return;
        }
        if (r.point == 1 && r.times > 0) {
            r.times--;
            crash(s, n);
            return;
        }
        int result = cmd(r).result.of(d.reg, d.var, r.argument, 0);
        for (Store set : cmd(r).sets) {
            d.reg[set.index] = mod(set.sum.of(d.reg, d.var, r.argument, result));
        }
        r.executions++;
        if (r.point == 2 && r.times > 0) {
            r.times--;
            crash(s, n);
            return;
        }
        complete(s, r, result);
    }

    private static int completed(St s) {
        return (int) s.requests.stream().filter(r -> r.state == 2).count();
    }

    // ---- the face

    private Drv driver(int n) {
        if (n < 0 || n >= conf.drivers) {
            throw new NoSuchElementException();
        }
        return st.drivers.get(n);
    }

    private Req known(int n) {
        if (n < 0 || n >= st.requests.size()) {
            throw new NoSuchElementException();
        }
        return st.requests.get(n);
    }

    private static void within(int n, int low, int high) {
        if (n < low || n > high) {
            throw new IllegalArgumentException();
        }
    }

    private static void exists(boolean so) {
        if (!so) {
            throw new NoSuchElementException();
        }
    }

    private void operation() {
        past.add(st.copy());
        if (past.size() > 10) {
            past.remove(0);
        }
    }

    int feed(int... words) {
        if (bytes.size() + 20 > 900) {
            return -1;
        }
        for (int w : words) {
            for (byte b : java.nio.ByteBuffer.allocate(4).putInt(w).array()) {
                bytes.add(b);
            }
        }
        return bytes.size();
    }

    int load(int length) {
        within(length, 0, bytes.size());
        try {
            conf = text(head(length));
        } catch (Bad b) {
            error = b.at;
            return -10 - b.code;
        }
        error = -1;
        st = fresh(conf);
        past.clear();
        kept = null;
        return conf.commands.size();
    }

    int query(int length) {
        within(length, 0, Math.min(200, bytes.size()));
        boolean many;
        Criterion c;
        try {
            cut(head(length));
            many = tok().equals("many");
            if (!many && !tok().equals("first")) {
                throw bad(1);
            }
            here++;
            c = criterion();
            if (!tok().equals("")) {
                throw bad(1);
            }
        } catch (Bad b) {
            error = b.at;
            return -1000000000 - b.code;
        }
        error = -1;
        int[] found = st.requests.stream().filter(c::of).mapToInt(r -> r.number).toArray();
        return many ? found.length : found.length == 0 ? -1 : found[0];
    }

    int classOf(int n) {
        exists(n >= 0 && n < conf.commands.size());
        return conf.commands.get(n).kind;
    }

    int timeOf(int n) {
        exists(n >= 0 && n < conf.commands.size());
        return conf.commands.get(n).time;
    }

    int submit(int d, int c, int argument, int priority, int limit) {
        Drv owner = driver(d);
        exists(c >= 0 && c < conf.commands.size());
        within(priority, 0, 3);
        within(limit, 0, 100000);
        if (owner.state == 2) {
            return -2;
        }
        if (st.requests.size() == 100) {
            return -3;
        }
        operation();
        Req r = new Req();
        r.number = st.requests.size();
        r.driver = d;
        r.command = c;
        r.argument = argument;
        r.priority = priority;
        r.limit = limit;
        r.accepted = st.clock;
        st.requests.add(r);
        note(st, 0, d, r.number);
        return r.number;
    }

    int cancel(int n) {
        if (known(n).state != 0) {
            return -2;
        }
        operation();
        fail(st, known(n), 4);
        return st.clock;
    }

    int plan(int n, int point, int times) {
        Req r = known(n);
        within(point, 0, 2);
        within(times, 0, 20);
        if (r.state > 1) {
            return -2;
        }
        operation();
        int before = r.point;
        r.point = point;
        r.times = times;
        return before;
    }

    int kill(int n) {
        if (driver(n).state != 0) {
            return -2;
        }
        operation();
        crash(st, n);
        return driver(n).state;
    }

    int replace(int n) {
        Drv d = driver(n);
        if (d.state != 0) {
            return -2;
        }
        if (d.flying >= 0) {
            return -3;
        }
        operation();
        snap(st, n);
        d.var = new int[4];
        d.state = 1;
        d.until = st.clock + conf.handover;
        return d.until;
    }

    int takeSnapshot(int n) {
        Drv d = driver(n);
        if (d.state != 0) {
            return -2;
        }
        operation();
        int size = d.log.size();
        snap(st, n);
        return size;
    }

    int poke(int n, int register, int value) {
        Drv d = driver(n);
        exists(register >= 0 && register < 8);
        within(value, 0, 65535);
        operation();
        int before = d.reg[register];
        d.reg[register] = value;
        return before;
    }

    int run(int ticks) {
        within(ticks, 0, 1000);
        if (st.clock + ticks > 1000000) {
            return -4;
        }
        operation();
        int before = completed(st);
        for (int i = 0; i < ticks; i++) {
            tick(st);
        }
        return completed(st) - before;
    }

    int logged(int n, int index) {
        Drv d = driver(n);
        exists(index >= 0);
        return index < d.log.size() ? d.log.get(index) : -1;
    }

    int request(int n, int what) {
        Req r = known(n);
        exists(what >= 0 && what <= 14);
        boolean working = r.state == 1 && st.drivers.get(r.driver).state == 0;
        return new int[] {r.driver, r.command, r.argument, r.priority, r.limit, r.accepted, r.state, r.failure,
            r.result, r.executions, r.crashes, working ? r.remaining : 0, r.point, r.times, r.ended}[what];
    }

    int recordCount() {
        return Math.min(200, st.records.size());
    }

    int record(int n, int what) {
        exists(n >= 0 && n < recordCount() && what >= 0 && what < 4);
        return st.records.get(st.records.size() - recordCount() + n)[what];
    }

    int total(int what) {
        return what < 0 || what > 8 ? -1 : (int) st.records.stream().filter(r -> r[1] == what).count();
    }

    double availability(int n) {
        Drv d = driver(n);
        return st.clock == 0 ? 1 : (double) d.up / st.clock;
    }

    float meanTime(int n) {
        driver(n);
        return (float) st.requests.stream().filter(r -> r.driver == n && r.state == 2)
                .mapToInt(r -> r.ended - r.accepted).average().orElse(0);
    }

    int forecast(int n) {
        known(n);
        St copy = st.copy();
        for (int ticks = 0; ticks <= 1000; ticks++) {
            if (req(copy, n).state > 1) {
                return ticks;
            }
            if (copy.clock + 1 > 1000000) {
                return -1;
            }
            tick(copy);
        }
        return -1;
    }

    int bestDelay(int ticks) {
        within(ticks, 0, Math.min(200, 1000000 - st.clock));
        int best = 0;
        int most = -1;
        for (int delay = 1; delay <= 16 && delay <= conf.greatest; delay++) {
            St copy = st.copy();
            copy.first = delay;
            for (int i = 0; i < ticks; i++) {
                tick(copy);
            }
            if (completed(copy) > most) {
                most = completed(copy);
                best = delay;
            }
        }
        return best;
    }

    int decision(int n) {
        Req r = known(n);
        return r.state == 1 ? decide(st, r) : -1;
    }

    int undo() {
        if (past.isEmpty()) {
            return -1;
        }
        st = past.remove(past.size() - 1);
        return past.size();
    }

    void saveState() {
        kept = st.copy();
    }

    boolean restoreState() {
        if (kept == null) {
            return false;
        }
        st = kept.copy();
        past.clear();
        return true;
    }

    int driverState(int n) {
        return driver(n).state;
    }

    int downUntil(int n) {
        return driver(n).state == 1 ? driver(n).until : -1;
    }

    int streak(int n) {
        return driver(n).streak;
    }

    int register(int n, int index) {
        Drv d = driver(n);
        exists(index >= 0 && index < 8);
        return d.reg[index];
    }

    int variable(int n, int index) {
        Drv d = driver(n);
        exists(index >= 0 && index < 4);
        return d.var[index];
    }

    int saved(int n, int index) {
        Drv d = driver(n);
        exists(index >= 0 && index < 4);
        return d.snap[index];
    }

    int logSize(int n) {
        return driver(n).log.size();
    }

    int inFlight(int n) {
        return driver(n).flying;
    }

    int nextRequest(int n) {
        driver(n);
        return next(st, n);
    }

    int queued(int n) {
        driver(n);
        return (int) st.requests.stream().filter(r -> r.driver == n && r.state == 0).count();
    }

    int driverCount() {
        return conf.drivers;
    }

    int commandCount() {
        return conf.commands.size();
    }

    int requestCount() {
        return st.requests.size();
    }

    int clock() {
        return st.clock;
    }

    int errorPosition() {
        return error;
    }

    int undoCount() {
        return past.size();
    }
}
