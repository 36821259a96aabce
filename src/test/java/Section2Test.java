/** Section 2 of the document, sentence by sentence: commands. */
public final class Section2Test {
    private Section2Test() {
    }

    public static void main(String[] args) {
        numberOfCommands();
        timesAndMissingParts();
        classes();
        wrapAroundInResults();
        wrapAroundElsewhere();
        operands();
        effectInOrder();
        keepingsInOrder();
        keepingsWhenCompleted();
        Check.close("Section2Test");
    }

    private static String commands(int count) {
        StringBuilder text = new StringBuilder("drivers 1;");
        for (int n = 0; n < count; n++) {
            text.append("command ").append((char) ('a' + n)).append(" pure time ").append(n + 1).append(';');
        }
        return text.toString();
    }

    private static void numberOfCommands() {
        Check.says("There are at most 8 commands, numbered from 0.");
        for (int count = 0; count <= 8; count++) {
            DriverHost host = Check.loaded(commands(count));
            Check.due("commandCount", count, host::commandCount);
            for (int command = 0; command < count; command++) {
                int asked = command;
                Check.due("time of command " + command, command + 1, () -> host.timeOf(asked));
                Check.due("submit of command " + command, command, () -> host.submit(0, asked, 0, 0, 0));
            }
            for (int command : new int[] {count, -1, Check.LEAST, Check.GREATEST}) {
                Check.missing("classOf " + command, () -> host.classOf(command));
                Check.missing("timeOf " + command, () -> host.timeOf(command));
                Check.idle(host, "submit of command " + command, "throws.NoSuchElementException",
                        () -> host.submit(0, command, 0, 0, 0));
            }
        }
        Check.rejects(commands(9), 3, commands(8).length());
    }

    private static void timesAndMissingParts() {
        Check.says("A command has a class, a time (1 to 50 ticks), a result expression (0 if it is missing), settings"
                + " of registers and keepings of variables.");
        Check.rejects("drivers 1;command a pure time 0;", 2, 30);
        Check.rejects("drivers 1;command a pure time 51;", 2, 30);
        for (int time : new int[] {1, 2, 49, 50}) {
            DriverHost host = Check.loaded("drivers 1;command a pure time " + time + " set 1=res+5 keep 1=res+6;");
            Check.due("timeOf", time, () -> host.timeOf(0));
            host.poke(0, 1, 9);
            host.submit(0, 0, 3, 0, 0);
            Check.due("one tick less than " + time, 0, () -> host.run(time - 1));
            Check.due(time + " ticks", 1, () -> host.run(1));
            Check.due("a missing result", 0, () -> host.request(0, 8));
            Check.due("a missing result in a setting", 5, () -> host.register(0, 1));
            Check.due("a missing result in a keeping", 6, () -> host.variable(0, 1));
        }
        DriverHost bare = Check.loaded("drivers 1;command a check 1=1 time 1;delay 1 1;");
        bare.poke(0, 0, 4);
        bare.submit(0, 0, 3, 0, 0);
        bare.plan(0, 1, 1);
        bare.run(3);
        Check.due("completed at the restart", 2, () -> bare.request(0, 6));
        Check.due("a missing result at the restart", 0, () -> bare.request(0, 8));
        Check.due("no settings", 4, () -> bare.register(0, 0));
        Check.due("no keepings", 0, () -> bare.variable(0, 0));
    }

    private static DriverHost crashedOnce(String commandClass) {
        DriverHost host = Check.loaded("drivers 1;command a " + commandClass + " time 1 set 0=reg 0+1;delay 1 1;");
        host.submit(0, 0, 0, 0, 0);
        host.plan(0, 2, 1);
        host.run(10);
        return host;
    }

    private static void classes() {
        Check.says("0 pure: it does not matter how often it is executed;");
        Check.due("classOf", 0, () -> crashedOnce("pure").classOf(0));
        Check.due("executions", 2, () -> crashedOnce("pure").request(0, 9));
        Check.says("1 again: it may be executed again;");
        Check.due("classOf", 1, () -> crashedOnce("again").classOf(0));
        Check.due("executions", 2, () -> crashedOnce("again").request(0, 9));
        Check.says("2 once: it must not be executed again;");
        Check.due("classOf", 2, () -> crashedOnce("once").classOf(0));
        Check.due("executions", 1, () -> crashedOnce("once").request(0, 9));
        Check.says("3 check: a condition tells whether it has been executed.");
        Check.due("classOf", 3, () -> crashedOnce("check reg 0=1").classOf(0));
        Check.due("executions if it holds", 1, () -> crashedOnce("check reg 0=1").request(0, 9));
        Check.due("executions if it does not", 2, () -> crashedOnce("check reg 0=2").request(0, 9));
    }

    private static void wrapAroundInResults() {
        Check.says("Expressions are computed with int arithmetic (it wraps around on overflow).");
        String[] sums = {"arg+1", "arg+0", "arg-1", "arg-0", "0-arg", "arg*2", "arg*2", "arg*arg", "arg*arg",
            "arg*arg", "arg+1-1", "arg*65535*65535", "65535*65535", "65535*32768", "65535*32769", "(arg+1)*(arg+1)"};
        int[] arguments = {Check.GREATEST, Check.GREATEST, Check.LEAST, Check.LEAST, Check.LEAST, 1073741823,
            1073741824, 46340, 46341, 65536, Check.GREATEST, 1, 0, 0, 0, Check.GREATEST};
        int[] results = {Check.LEAST, Check.GREATEST, Check.GREATEST, Check.LEAST, Check.LEAST, 2147483646,
            Check.LEAST, 2147395600, -2147479015, 0, Check.GREATEST, -131071, -131071, 2147450880, -2147450881, 0};
        for (int n = 0; n < sums.length; n++) {
            DriverHost host = Check.loaded("drivers 1;command a pure time 1 result " + sums[n] + ";");
            host.submit(0, 0, arguments[n], 0, 0);
            host.run(1);
            Check.due(sums[n] + " with " + arguments[n], results[n], () -> host.request(0, 8));
        }
    }

    private static void wrapAroundElsewhere() {
        DriverHost host = Check.loaded("drivers 1;command a check arg+1<arg time 9;command b check arg-1>arg time 9;"
                + "command c check arg*2<0 time 9;command d pure time 1 result arg*2 set 0=(arg+arg)*(arg+arg)+7 "
                + "set 1=res+res+5 keep 0=res*res+3 keep 1=res+res+9;");
        int[] holds = {Check.GREATEST, Check.LEAST, 1073741824};
        int[] fails = {Check.GREATEST - 1, Check.LEAST + 1, 1073741823};
        for (int command = 0; command < 3; command++) {
            for (int argument : new int[] {holds[command], fails[command]}) {
                int request = host.submit(0, command, argument, 0, 0);
                host.run(1);
                int want = argument == holds[command] ? 1 : 0;
                Check.due("test " + command + " with " + argument, want, () -> host.decision(request));
                host.run(8);
            }
        }
        host.submit(0, 3, 1073741824, 0, 0);
        host.run(1);
        Check.due("the result", Check.LEAST, () -> host.request(6, 8));
        Check.due("a setting with the argument", 7, () -> host.register(0, 0));
        Check.due("a setting with the result", 5, () -> host.register(0, 1));
        Check.due("a keeping", 3, () -> host.variable(0, 0));
        Check.due("a keeping", 9, () -> host.variable(0, 1));
    }

    private static void operands() {
        Check.says("In an expression, 'reg' with a number is a register of the device, 'var' with a number a variable"
                + " of the driver, 'arg' the argument of the request, 'res' its result.");
        DriverHost host = Check.loaded("drivers 2;command k pure time 1 keep 0=arg keep 3=arg+1;"
                + "command a pure time 1 result reg 0+reg 7*10+var 0*100+var 3*1000+arg*10000 set 1=res keep 1=res;");
        host.poke(0, 0, 9);
        host.poke(0, 7, 9);
        host.poke(1, 0, 1);
        host.poke(1, 7, 2);
        host.submit(0, 0, 8, 0, 0);
        host.submit(1, 0, 3, 0, 0);
        host.submit(0, 1, 7, 0, 0);
        host.submit(1, 1, 5, 0, 0);
        host.run(2);
        Check.due("those of driver 0", 9 + 90 + 800 + 9000 + 70000, () -> host.request(2, 8));
        Check.due("those of driver 1", 1 + 20 + 300 + 4000 + 50000, () -> host.request(3, 8));
        Check.due("the result in a setting", 54321, () -> host.register(1, 1));
        Check.due("the result in a keeping", 54321, () -> host.variable(1, 1));
    }

    private static void effectInOrder() {
        Check.says("The effect of a request: the result is the value of the result expression; then the settings are"
                + " done in order (each one sees the registers that the settings before it have left).");
        DriverHost host = Check.loaded("drivers 1;command a pure time 1 result reg 0 set 0=reg 0+1 set 1=reg 0*10 "
                + "set 0=reg 1+reg 0 set 2=res set 3=65535+2 set 4=reg 3;");
        host.poke(0, 0, 5);
        host.submit(0, 0, 0, 0, 0);
        host.run(1);
        Check.due("the result comes first", 5, () -> host.request(0, 8));
        Check.due("the second setting", 60, () -> host.register(0, 1));
        Check.due("the third setting", 66, () -> host.register(0, 0));
        Check.due("'res' is the result", 5, () -> host.register(0, 2));
        Check.due("a register is seen as it was stored", 1, () -> host.register(0, 4));
        DriverHost crossed = Check.loaded("drivers 1;command a pure time 1 set 0=reg 1 set 1=reg 0;");
        crossed.poke(0, 0, 3);
        crossed.poke(0, 1, 4);
        crossed.submit(0, 0, 0, 0, 0);
        crossed.run(1);
        Check.due("registers are not exchanged", 44, () -> crossed.register(0, 0) * 10 + crossed.register(0, 1));
    }

    private static void keepingsInOrder() {
        Check.says("The keepings of a request are done in order likewise when it is completed.");
        DriverHost host = Check.loaded("drivers 1;command a pure time 2 result var 0+1 set 0=var 0 keep 0=var 0+3 "
                + "keep 1=var 0*10 keep 0=var 1+var 0 keep 2=res keep 3=0-1 keep 3=var 3+2;");
        host.submit(0, 0, 0, 0, 0);
        host.run(1);
        Check.due("nothing before the completion", 0, () -> host.variable(0, 1));
        host.run(1);
        Check.due("the second keeping", 30, () -> host.variable(0, 1));
        Check.due("the third keeping", 33, () -> host.variable(0, 0));
        Check.due("'res' is the result", 1, () -> host.variable(0, 2));
        Check.due("a variable is seen as it was stored", 1, () -> host.variable(0, 3));
        Check.due("the settings come before the keepings", 0, () -> host.register(0, 0));
        DriverHost crossed = Check.loaded("drivers 1;command s pure time 1 keep 0=3 keep 1=4;"
                + "command a pure time 1 keep 0=var 1 keep 1=var 0;");
        crossed.submit(0, 0, 0, 0, 0);
        crossed.submit(0, 1, 0, 0, 0);
        crossed.run(2);
        Check.due("variables are not exchanged", 44, () -> crossed.variable(0, 0) * 10 + crossed.variable(0, 1));
    }

    private static void keepingsWhenCompleted() {
        DriverHost host = Check.loaded("drivers 1;command o once time 1 set 0=reg 0+1 keep 0=7;"
                + "command a again time 1 set 1=reg 1+1 keep 1=var 1+1;delay 1 1;");
        host.submit(0, 0, 0, 0, 0);
        host.plan(0, 2, 1);
        host.run(5);
        Check.due("the effect was done", 1, () -> host.register(0, 0));
        Check.due("one that failed has no keepings", 0, () -> host.variable(0, 0));
        host.submit(0, 1, 0, 0, 0);
        host.plan(1, 2, 2);
        host.run(20);
        Check.due("the effect was done three times", 3, () -> host.register(0, 1));
        Check.due("the keepings once", 1, () -> host.variable(0, 1));
    }
}
