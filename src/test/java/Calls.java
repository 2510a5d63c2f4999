import java.util.ArrayList;
import java.util.Arrays;
import java.util.List;
import java.util.regex.Matcher;
import java.util.regex.Pattern;

/**
 * Runs of calls on a new object, told as a text, each call with the answer that is due:
 * <pre>{c1,10,5,10,0,3;} tell(0,10)=0 2*tick(1)=0 lock(6,1)=BAD 'r5,3' fault()=15</pre>
 * {..} wipes THE TEXT, writes this one and lays it; '..' writes letters behind THE TEXT; 2* is a call two times.
 * Behind each call that is refused there is a look that nothing has changed by it.
 */
final class Calls {
    private static final Pattern TOKEN = Pattern.compile("(?:(\\d+)\\*)?(\\w+)\\(([-\\d,]*)\\)=(-?\\w+)");
    private static final List<String> ASKING = List.of("fault", "machine", "power", "share", "best", "now", "ahead", "count");
    /** So many calls a look takes at most, with what goes on ahead of it. */
    private static final int LOOK = 116;
    /** What may go on behind a run, so that what only shows later shows too. */
    private static final List<String> LATER = List.of("", "undo", "undo undo", "undo undo undo", "undo undo undo undo",
        "tick 1", "tick 7", "tell 0 480 tick 60", "dip tick 4", "write 99", "lay");

    private record Call(String name, int[] args, int want) {
        boolean isRefused() {
            return want < 0;
        }

        boolean isAsking() {
            return ASKING.contains(name);
        }

        @Override
        public String toString() {
            return name + Arrays.toString(args).replace('[', '(').replace(']', ')');
        }
    }

    private Calls() {
    }

    /** The sentence of the document holds in each of these runs. */
    static void hold(String sentence, String... runs) {
        Document.says(sentence);
        for (String run : runs) {
            List<Call> calls = callsOf(run);
            asDue(run, calls);
            refusedChangeNothing(run, calls);
            List<Call> told = new ArrayList<>(calls);
            told.removeIf(Call::isAsking);
            Due.isTrue("asking changes nothing in " + run, Arrays.equals(looks(calls), looks(told)));
        }
    }

    /** Behind these two runs all is the same, now and later. */
    static void same(String sentence, String run, String other) {
        hold(sentence, run, other);
        Due.isTrue(run + " is as " + other, Arrays.equals(looks(callsOf(run)), looks(callsOf(other))));
    }

    private static void asDue(String run, List<Call> calls) {
        ColdHouse x = new ColdHouse();
        for (int k = 0; k < calls.size(); k++) {
            Call call = calls.get(k);
            Due.is(run + ": call " + (k + 1) + ", " + call, answer(x, call.name, call.args), call.want);
        }
        Due.isTrue("512 calls at most in " + run, calls.size() + LOOK <= 512);
    }

    private static void refusedChangeNothing(String run, List<Call> calls) {
        List<Call> kept = new ArrayList<>();
        int[] before = null;
        for (Call call : calls) {
            before = before == null ? looks(kept) : before;
            kept.add(call);
            if (call.isRefused()) {
                Due.isTrue("nothing changes by " + call + " in " + run, Arrays.equals(looks(kept), before));
                kept.remove(kept.size() - 1);
            } else {
                before = null;
            }
        }
    }

    private static List<Call> callsOf(String run) {
        List<Call> calls = new ArrayList<>();
        int length = 0;
        for (String token : run.trim().split("\\s+")) {
            if (token.startsWith("{")) {
                String text = token.substring(1, token.length() - 1);
                calls.add(new Call("wipe", new int[0], length));
                writes(calls, text, 0);
                calls.add(new Call("lay", new int[0], (int) text.chars().filter(c -> c == 'c').count()));
                length = text.length();
            } else if (token.startsWith("'")) {
                String text = token.substring(1, token.length() - 1);
                writes(calls, text, length);
                length += text.length();
            } else if (!token.isEmpty()) {
                length = takeCall(calls, token, length);
            }
        }
        return calls;
    }

    private static void writes(List<Call> calls, String text, int length) {
        for (int k = 0; k < text.length(); k++) {
            calls.add(new Call("write", new int[] {text.charAt(k)}, length + k + 1));
        }
    }

    /** How long THE TEXT is behind it. */
    private static int takeCall(List<Call> calls, String token, int length) {
        Matcher found = TOKEN.matcher(token);
        if (!found.matches()) {
            throw new IllegalArgumentException("no call: " + token);
        }
        int times = found.group(1) == null ? 1 : Integer.parseInt(found.group(1));
        String name = found.group(2);
        int[] args = found.group(3).isEmpty() ? new int[0]
            : Arrays.stream(found.group(3).split(",")).mapToInt(Integer::parseInt).toArray();
        for (int k = 0; k < times; k++) {
            calls.add(new Call(name, args, wantOf(found.group(4))));
        }
        int last = calls.get(calls.size() - 1).want;
        return name.equals("wipe") ? 0 : name.equals("write") && last >= 0 ? last : length;
    }

    private static int wantOf(String answer) {
        return switch (answer) {
            case "BAD" -> ColdHouse.BAD;
            case "NO" -> ColdHouse.NO;
            case "FULL" -> ColdHouse.FULL;
            case "NONE" -> ColdHouse.NONE;
            default -> Integer.parseInt(answer);
        };
    }

    private static int answer(ColdHouse x, String name, int... a) {
        return switch (name) {
            case "write" -> x.write(a[0]);
            case "wipe" -> x.wipe();
            case "fault" -> x.fault();
            case "lay" -> x.lay();
            case "tell" -> x.tell(a[0], a[1]);
            case "lock" -> x.lock(a[0], a[1]);
            case "dip" -> x.dip();
            case "tick" -> x.tick(a[0]);
            case "undo" -> x.undo();
            case "machine" -> x.machine(a[0], a[1]);
            case "power" -> x.power(a[0], a[1], a[2]);
            case "share" -> x.share(a[0], a[1], a[2]);
            case "best" -> x.best(a[0], a[1]);
            case "now" -> x.now(a[0]);
            case "ahead" -> x.ahead(a[0], a[1]);
            case "count" -> x.count(a[0]);
            default -> throw new IllegalArgumentException("no call: " + name);
        };
    }

    /** All that can be seen behind these calls, at once and later, each time on an object that has made them anew. */
    private static int[] looks(List<Call> calls) {
        List<Integer> seen = new ArrayList<>();
        for (String later : LATER) {
            ColdHouse x = new ColdHouse();
            for (Call call : calls) {
                answer(x, call.name, call.args);
            }
            goOn(x, later, seen);
            look(x, seen);
        }
        return seen.stream().mapToInt(Integer::intValue).toArray();
    }

    private static void goOn(ColdHouse x, String later, List<Integer> seen) {
        String[] words = later.split(" ");
        for (int k = 0; k < words.length && !later.isEmpty(); k++) {
            int args = words[k].equals("tell") ? 2 : words[k].equals("tick") || words[k].equals("write") ? 1 : 0;
            int[] a = new int[args];
            for (int j = 0; j < args; j++) {
                a[j] = Integer.parseInt(words[k + 1 + j]);
            }
            seen.add(answer(x, words[k], a));
            k += args;
        }
    }

    private static void look(ColdHouse x, List<Integer> seen) {
        for (int what = 0; what < 16; what++) {
            seen.add(x.count(what));
        }
        for (int m = 0; m < x.count(0); m++) {
            for (int what = 0; what < 13; what++) {
                seen.add(x.machine(m, what));
            }
        }
        for (int what = 0; what < 7; what++) {
            seen.add(x.now(what));
        }
        seen.add(x.fault());
        seen.add(x.ahead(60, 0));
        seen.add(x.ahead(60, 2));
    }
}
