import java.util.ArrayDeque;
import java.util.ArrayList;
import java.util.Deque;
import java.util.List;
import java.util.Set;
import java.util.TreeMap;
import java.util.TreeSet;
import java.util.function.IntPredicate;

/**
 * The document told a second time, as plainly as can be and with the whole Java library: every call is answered as a
 * text, an exception as throws.ItsName. Nothing of it is taken from the class that it is compared with.
 */
final class Model {
    /** What a place owes: to which source, by which promise. */
    private record Debt(int source, int promise) {
    }

    private record Event(int kind, int place, int number) {
    }

    /** A row of places that make one debt. */
    private record Row(int first, int source, int length, int promise) {
    }

    private static final class State {
        int size;
        int band;
        int limit;
        int policy;
        boolean isShort;
        boolean settles;
        int promises;
        int lengths;
        int fetches;
        int fetchedHops;
        int idle;
        int forced;
        int atOnce;
        int dropped;
        final TreeMap<Integer, Integer> bytes = new TreeMap<>();
        final TreeMap<Integer, Debt> debts = new TreeMap<>();
        final TreeSet<Integer> locked = new TreeSet<>();
        final List<Event> events = new ArrayList<>();

        State twin() {
            State twin = new State();
            twin.size = size;
            twin.band = band;
            twin.limit = limit;
            twin.policy = policy;
            twin.isShort = isShort;
            twin.settles = settles;
            twin.promises = promises;
            twin.lengths = lengths;
            twin.fetches = fetches;
            twin.fetchedHops = fetchedHops;
            twin.idle = idle;
            twin.forced = forced;
            twin.atOnce = atOnce;
            twin.dropped = dropped;
            twin.bytes.putAll(bytes);
            twin.debts.putAll(debts);
            twin.locked.addAll(locked);
            twin.events.addAll(events);
            return twin;
        }

        int value(int place) {
            return debts.containsKey(place) ? value(debts.get(place).source) : bytes.get(place);
        }

        int hops(int place) {
            return debts.containsKey(place) ? 1 + hops(debts.get(place).source) : 0;
        }

        int root(int place) {
            return debts.containsKey(place) ? root(debts.get(place).source) : place;
        }

        boolean depends(int place, int other) {
            if (!debts.containsKey(place)) {
                return false;
            }
            int source = debts.get(place).source;
            return source == other || depends(source, other);
        }

        void event(int kind, int place, int number) {
            if (events.size() < 80) {
                events.add(new Event(kind, place, number));
            }
        }

        void pay(int place, int kind) {
            int value = value(place);
            bytes.put(place, value);
            debts.remove(place);
            event(kind, place, value);
            if (kind == 1) {
                idle++;
            } else {
                forced++;
            }
        }

        int payDependents(Set<Integer> changing) {
            List<Integer> due = new ArrayList<>();
            for (int p : debts.keySet()) {
                if (!changing.contains(p) && changing.contains(debts.get(p).source)) {
                    due.add(p);
                }
            }
            due.forEach(p -> pay(p, 2));
            return due.size();
        }

        void drop(Set<Integer> places) {
            for (int p : places) {
                if (debts.containsKey(p)) {
                    event(4, p, debts.remove(p).promise);
                    dropped++;
                }
            }
        }

        int next() {
            int best = -1;
            for (int p : debts.keySet()) {
                if (best == -1 || isAhead(p, best)) {
                    best = p;
                }
            }
            return best;
        }

        private boolean isAhead(int place, int other) {
            if (policy == 0) {
                return debts.get(place).promise < debts.get(other).promise;
            }
            if (policy == 1) {
                return false;
            }
            return policy == 2 ? hops(place) > hops(other) : hops(place) < hops(other);
        }

        void keepLimit() {
            while (debts.size() > limit) {
                pay(next(), 2);
            }
        }

        int whyCopy(long from, long to, long length) {
            if (length < 1) {
                return 1;
            }
            if (from < 0 || to < 0 || from + length > size || to + length > size) {
                return 2;
            }
            return locked.stream().anyMatch(p -> p >= to && p < to + length) ? 3 : 0;
        }

        int copy(int from, int to, int length) {
            int number = promises++;
            lengths += length;
            event(0, to, length);
            Set<Integer> targets = row(to, to + length - 1);
            TreeMap<Integer, Integer> before = new TreeMap<>();
            for (int p = 0; p < size; p++) {
                before.put(p, value(p));
            }
            payDependents(targets);
            drop(targets);
            for (int target : targets) {
                int source = target - to + from;
                if (targets.contains(source)) {
                    bytes.put(target, before.get(source));
                    atOnce++;
                    event(3, target, before.get(source));
                }
            }
            for (int target : targets) {
                int source = target - to + from;
                if (!targets.contains(source)) {
                    debts.put(target, new Debt(isShort ? root(source) : source, number));
                }
            }
            keepLimit();
            return number;
        }

        int fill(Set<Integer> places, int value) {
            int paid = payDependents(places);
            drop(places);
            places.forEach(p -> bytes.put(p, value));
            return paid;
        }

        int lock(int place) {
            int paid = debts.containsKey(place) ? 1 : 0;
            if (paid == 1) {
                pay(place, 2);
            }
            locked.add(place);
            return paid;
        }

        /** A tick, and which places are paid in it. */
        List<Integer> tick() {
            List<Integer> paid = new ArrayList<>();
            for (int k = 0; k < band && !debts.isEmpty(); k++) {
                paid.add(next());
                pay(next(), 1);
            }
            return paid;
        }

        List<Row> rows() {
            List<Row> rows = new ArrayList<>();
            for (int p : debts.keySet()) {
                Debt debt = debts.get(p);
                Row last = rows.isEmpty() ? null : rows.get(rows.size() - 1);
                if (last != null && last.first + last.length == p && last.promise == debt.promise
                        && last.source + last.length == debt.source) {
                    rows.set(rows.size() - 1, new Row(last.first, last.source, last.length + 1, last.promise));
                } else {
                    rows.add(new Row(p, debt.source, 1, debt.promise));
                }
            }
            return rows;
        }
    }

    /** An error in a text. */
    private static final class TextError extends RuntimeException {
        private static final long serialVersionUID = 1L;
        final int code;
        final int position;

        TextError(int code, int position) {
            this.code = code;
            this.position = position;
        }
    }

    private record Token(String text, int position) {
        boolean isNumber() {
            return text.matches("[0-9]{1,3}");
        }
    }

    private static final class Parser {
        private final List<Token> tokens = new ArrayList<>();
        private final State state = new State();
        private int at;

        Parser(String text) {
            java.util.regex.Matcher runs = java.util.regex.Pattern.compile("[a-z]+|[0-9]+|[^ ]").matcher(text);
            while (runs.find()) {
                tokens.add(new Token(runs.group(), runs.start()));
            }
            // The end of the text stands as a token that nothing allows.
            tokens.add(new Token("", text.length()));
        }

        private Token token() {
            return tokens.get(at);
        }

        private TextError error(int code) {
            return new TextError(code, token().position);
        }

        private void word(String word) {
            if (!token().text.equals(word)) {
                throw error(1);
            }
            at++;
        }

        private int number(int least, int most, IntPredicate possible) {
            if (!token().isNumber()) {
                throw error(1);
            }
            int number = Integer.parseInt(token().text);
            if (number < least || number > most) {
                throw error(2);
            }
            if (!possible.test(number)) {
                throw error(3);
            }
            at++;
            return number;
        }

        private int number(int least, int most) {
            return number(least, most, n -> true);
        }

        State parse() {
            word("memory");
            state.size = number(1, 96);
            word("band");
            state.band = number(1, 20);
            word("limit");
            state.limit = number(0, 96);
            word("policy");
            state.policy = number(0, 3);
            row(0, state.size - 1).forEach(p -> state.bytes.put(p, 0));
            TreeMap<String, Integer> lines = new TreeMap<>();
            while (!token().text.isEmpty()) {
                word(";");
                String word = token().text;
                int count = lines.merge(word, 1, Integer::sum);
                check(word, count, lines.containsKey("copy"));
                at++;
                line(word);
            }
            return state;
        }

        private void check(String word, int count, boolean behindCopies) {
            if (!List.of("put", "lock", "copy", "fill", "short", "settle").contains(word)) {
                throw error(1);
            }
            if (word.equals("put") && behindCopies) {
                throw error(1);
            }
            if (word.startsWith("s") && count > 1) {
                throw error(3);
            }
            int most = word.equals("put") || word.equals("copy") ? 20 : 6;
            if (count > most) {
                throw error(4);
            }
        }

        private void line(String word) {
            int last = state.size - 1;
            switch (word) {
                case "short" -> state.isShort = true;
                case "settle" -> state.settles = true;
                case "put" -> put(number(0, last));
                case "lock" -> {
                    int first = number(0, last);
                    row(first, number(first, last)).forEach(state::lock);
                }
                case "fill" -> {
                    int first = number(0, last);
                    Set<Integer> places = row(first, number(first, last));
                    state.fill(places, number(0, 255, v -> places.stream().noneMatch(state.locked::contains)));
                }
                default -> {
                    int from = number(0, last);
                    int to = number(0, last);
                    state.copy(from, to, number(1, state.size, n -> state.whyCopy(from, to, n) == 0));
                }
            }
        }

        private void put(int first) {
            int place = first;
            do {
                int most = place < state.size ? 255 : -1;
                state.bytes.put(place, number(0, most));
                place++;
            } while (token().isNumber() || token().text.matches("[0-9]+"));
        }
    }

    private static TreeSet<Integer> row(int first, int last) {
        TreeSet<Integer> row = new TreeSet<>();
        for (int p = first; p <= last; p++) {
            row.add(p);
        }
        return row;
    }

    private State state;
    private String buffer = "";
    private int parseError;
    private int errorPosition = -1;
    private String text = "";
    private final Deque<State> past = new ArrayDeque<>();
    private final State[] saved = new State[2];

    String answer(String method, int... a) {
        try {
            return tell(method, a);
        } catch (IllegalStateException | IndexOutOfBoundsException | IllegalArgumentException e) {
            return "throws." + e.getClass().getSimpleName();
        }
    }

    private String tell(String method, int[] a) {
        switch (method) {
            case "append":
                return "" + append(a);
            case "load":
                return "" + load(a[0]);
            case "parseError":
                return "" + parseError;
            case "errorPosition":
                return "" + errorPosition;
            case "buffered":
                return "" + buffer.length();
            case "size":
                return "" + (state == null ? 0 : state.size);
            case "events":
                return "" + (state == null ? 0 : state.events.size());
            case "undoable":
                return "" + past.size();
            case "undo":
                state(!past.isEmpty());
                state = past.pop();
                return "" + past.size();
            case "textByte":
                index(a[0] >= 0 && a[0] < text.length());
                return "" + (int) text.charAt(a[0]);
            case "restore":
                index(a[0] == 0 || a[0] == 1);
                state(saved[a[0]] != null);
                state = saved[a[0]].twin();
                past.clear();
                return "" + state.debts.size();
            default:
                state(state != null);
                return ofMemory(method, a);
        }
    }

    private int append(int[] words) {
        if (buffer.length() + 20 > 700) {
            return -1;
        }
        for (int word : words) {
            for (int shift : new int[] {24, 16, 8, 0}) {
                buffer += (char) (word >> shift & 0xff);
            }
        }
        return buffer.length();
    }

    private int load(int n) {
        index(n >= 0 && n <= buffer.length());
        String start = buffer.substring(0, n);
        buffer = "";
        parseError = 0;
        errorPosition = -1;
        try {
            state = new Parser(start).parse();
        } catch (TextError e) {
            parseError = e.code;
            errorPosition = e.position;
            throw new IllegalArgumentException();
        }
        past.clear();
        saved[0] = null;
        saved[1] = null;
        return state.size;
    }

    private static void state(boolean holds) {
        if (!holds) {
            throw new IllegalStateException();
        }
    }

    private static void index(boolean holds) {
        if (!holds) {
            throw new IndexOutOfBoundsException();
        }
    }

    private static void argument(boolean holds) {
        if (!holds) {
            throw new IllegalArgumentException();
        }
    }

    private void places(int... places) {
        for (int place : places) {
            index(place >= 0 && place < state.size);
        }
    }

    private Set<Integer> placesBetween(int first, int last) {
        places(first, last);
        argument(last >= first);
        return row(first, last);
    }

    private void unlocked(Set<Integer> places) {
        argument(places.stream().noneMatch(state.locked::contains));
    }

    private State ahead() {
        return state.twin();
    }

    private String ofMemory(String method, int[] a) {
        switch (method) {
            case "setting":
                argument(a[0] >= 0 && a[0] <= 4);
                return "" + setting(a[0]);
            case "stored":
                places(a[0]);
                return "" + state.bytes.get(a[0]);
            case "value":
                places(a[0]);
                return "" + state.value(a[0]);
            case "source":
                places(a[0]);
                return "" + (state.debts.containsKey(a[0]) ? state.debts.get(a[0]).source : -1);
            case "promise":
                places(a[0]);
                return "" + (state.debts.containsKey(a[0]) ? state.debts.get(a[0]).promise : -1);
            case "hops":
                places(a[0]);
                return "" + state.hops(a[0]);
            case "root":
                places(a[0]);
                return "" + state.root(a[0]);
            case "isLocked":
                places(a[0]);
                return "" + state.locked.contains(a[0]);
            case "dependents":
                places(a[0]);
                return "" + state.debts.keySet().stream()
                        .filter(p -> a[1] == 1 ? state.depends(p, a[0]) : state.debts.get(p).source == a[0]).count();
            default:
                return ofDebts(method, a);
        }
    }

    private int setting(int what) {
        return new int[] {state.band, state.limit, state.policy, state.isShort ? 1 : 0, state.settles ? 1 : 0}[what];
    }

    private String ofDebts(String method, int[] a) {
        switch (method) {
            case "owed":
                return "" + state.debts.size();
            case "owedIn":
                return "" + placesBetween(a[0], a[1]).stream().filter(state.debts::containsKey).count();
            case "firstOwed":
                places(a[0]);
                Integer found = state.debts.ceilingKey(a[0]);
                return "" + (found == null ? -1 : found);
            case "debts":
                return "" + state.rows().size();
            case "debt":
                index(a[0] >= 0 && a[0] < state.rows().size());
                argument(a[1] >= 0 && a[1] <= 3);
                Row row = state.rows().get(a[0]);
                return "" + new int[] {row.first, row.source, row.length, row.promise}[a[1]];
            case "most":
                return "" + row(0, state.size - 1).stream().mapToInt(state::hops).max().orElse(0);
            case "deepest":
                int most = row(0, state.size - 1).stream().mapToInt(state::hops).max().orElse(0);
                return "" + state.debts.keySet().stream().filter(p -> state.hops(p) == most).findFirst().orElse(-1);
            case "distance":
                places(a[0], a[1]);
                boolean leads = a[0] == a[1] || state.depends(a[0], a[1]);
                return "" + (leads ? state.hops(a[0]) - state.hops(a[1]) : -1);
            case "oldest":
                return "" + state.debts.values().stream().mapToInt(Debt::promise).min().orElse(-1);
            case "creditors":
                return "" + state.debts.values().stream().map(Debt::source).distinct().count();
            case "next":
                return "" + state.next();
            case "stale":
                return "" + row(0, state.size - 1).stream().filter(p -> state.bytes.get(p) != state.value(p)).count();
            default:
                return ofValues(method, a);
        }
    }

    private String ofValues(String method, int[] a) {
        switch (method) {
            case "sum":
                return "" + placesBetween(a[0], a[1]).stream().mapToInt(state::value).sum();
            case "find":
                places(a[1]);
                argument(a[0] >= 0 && a[0] <= 255);
                return "" + row(a[1], state.size - 1).stream().filter(p -> state.value(p) == a[0]).findFirst()
                        .orElse(-1);
            case "same":
                places(a[0], a[1]);
                argument(a[2] >= 1 && (long) a[0] + a[2] <= state.size && (long) a[1] + a[2] <= state.size);
                return "" + row(0, a[2] - 1).stream().allMatch(i -> state.value(a[0] + i) == state.value(a[1] + i));
            case "checksum":
                long sum = 17;
                for (int p = 0; p < state.size; p++) {
                    sum = 31 * sum + state.value(p);
                }
                return "" + sum;
            default:
                return ofWhatIf(method, a);
        }
    }

    private String ofWhatIf(String method, int[] a) {
        State then = ahead();
        switch (method) {
            case "whyCopy":
                return "" + state.whyCopy(a[0], a[1], a[2]);
            case "forcedByCopy":
                argument(state.whyCopy(a[0], a[1], a[2]) == 0);
                then.copy(a[0], a[1], a[2]);
                return "" + (then.forced - state.forced);
            case "owedIfCopy":
                argument(state.whyCopy(a[0], a[1], a[2]) == 0);
                then.copy(a[0], a[1], a[2]);
                return "" + then.debts.size();
            case "costOfCopy":
                argument(state.whyCopy(a[0], a[1], a[2]) == 0);
                then.copy(a[0], a[1], a[2]);
                return "" + (cost(then) - cost(state));
            case "forcedByWrite":
                places(a[0]);
                unlocked(row(a[0], a[0]));
                return "" + then.payDependents(row(a[0], a[0]));
            case "forcedByFill":
                Set<Integer> filled = placesBetween(a[0], a[1]);
                unlocked(filled);
                return "" + then.payDependents(filled);
            case "ticksToClear":
                int ticks = 0;
                while (!then.debts.isEmpty()) {
                    then.tick();
                    ticks++;
                }
                return "" + ticks;
            case "owedAfter":
                argument(a[0] >= 1 && a[0] <= 100);
                for (int k = 0; k < a[0]; k++) {
                    then.tick();
                }
                return "" + then.debts.size();
            case "paidIn":
                places(a[0]);
                int passed = 0;
                while (then.debts.containsKey(a[0])) {
                    then.tick();
                    passed++;
                }
                return "" + passed;
            case "bestPolicy":
                return "" + bestPolicy();
            default:
                return ofAccounts(method, a);
        }
    }

    private int bestPolicy() {
        TreeMap<Integer, Integer> policies = new TreeMap<>();
        for (int policy = 0; policy < 4; policy++) {
            State then = ahead();
            then.policy = policy;
            then.tick();
            policies.putIfAbsent(row(0, then.size - 1).stream().mapToInt(then::hops).sum(), policy);
        }
        return policies.firstEntry().getValue();
    }

    private static int cost(State state) {
        return state.idle + 3 * state.forced + 2 * state.atOnce;
    }

    private String ofAccounts(String method, int[] a) {
        switch (method) {
            case "account":
                argument(a[0] >= 0 && a[0] <= 8);
                return "" + new int[] {state.promises, state.lengths, state.idle, state.forced, state.atOnce,
                    state.dropped, state.fetchedHops, cost(state), state.fetches}[a[0]];
            case "meanHops":
                return "" + (state.fetches == 0 ? 0.0 : (double) state.fetchedHops / (double) state.fetches);
            case "idleShare":
                int all = state.idle + state.forced + state.atOnce;
                return "" + (all == 0 ? 0.0f : (float) state.idle / (float) all);
            case "event":
                index(a[0] >= 0 && a[0] < state.events.size());
                argument(a[1] >= 0 && a[1] <= 2);
                Event event = state.events.get(a[0]);
                return "" + new int[] {event.kind, event.place, event.number}[a[1]];
            case "writeDebts":
                List<String> told = state.rows().stream().map(r -> r.first + "x" + r.length + "<" + r.source).toList();
                text = told.isEmpty() ? "-" : String.join(",", told);
                return "" + text.length();
            case "writeChain":
                places(a[0]);
                text = chain(a[0]) + "=" + state.value(a[0]);
                return "" + text.length();
            case "save":
                index(a[0] == 0 || a[0] == 1);
                saved[a[0]] = state.twin();
                return "" + state.debts.size();
            default:
                return ofChange(method, a);
        }
    }

    private String chain(int place) {
        return state.debts.containsKey(place) ? place + "<" + chain(state.debts.get(place).source) : "" + place;
    }

    /** A change works on a twin of the state, which takes its place only if nothing was thrown. */
    private String ofChange(String method, int[] a) {
        State then = ahead();
        int answer = change(then, method, a);
        past.push(state);
        if (past.size() > 8) {
            past.removeLast();
        }
        state = then;
        return "" + answer;
    }

    private int change(State then, String method, int[] a) {
        switch (method) {
            case "copy":
                argument(state.whyCopy(a[0], a[1], a[2]) == 0);
                return then.copy(a[0], a[1], a[2]);
            case "write":
                places(a[0]);
                argument(a[1] >= 0 && a[1] <= 255);
                unlocked(row(a[0], a[0]));
                return then.fill(row(a[0], a[0]), a[1]);
            case "fill":
                Set<Integer> filled = placesBetween(a[0], a[1]);
                argument(a[2] >= 0 && a[2] <= 255);
                unlocked(filled);
                return then.fill(filled, a[2]);
            case "exchange":
                places(a[0], a[1]);
                argument(a[0] != a[1]);
                unlocked(new TreeSet<>(List.of(a[0], a[1])));
                int paid = then.fill(new TreeSet<>(List.of(a[0], a[1])), 0);
                then.bytes.put(a[0], state.value(a[1]));
                then.bytes.put(a[1], state.value(a[0]));
                return paid;
            case "move":
                argument(state.whyCopy(a[0], a[1], a[2]) == 0);
                Set<Integer> left = row(a[0], a[0] + a[2] - 1);
                left.removeAll(row(a[1], a[1] + a[2] - 1));
                unlocked(left);
                int number = then.copy(a[0], a[1], a[2]);
                then.fill(left, 0);
                return number;
            case "fetch":
                places(a[0]);
                then.fetches++;
                then.fetchedHops += state.hops(a[0]);
                if (then.settles && then.debts.containsKey(a[0])) {
                    then.pay(a[0], 2);
                }
                return state.value(a[0]);
            default:
                return quietChange(then, method, a);
        }
    }

    private int quietChange(State then, String method, int[] a) {
        switch (method) {
            case "tick":
                argument(a[0] >= 1 && a[0] <= 100);
                int paid = 0;
                for (int k = 0; k < a[0]; k++) {
                    paid += then.tick().size();
                }
                return paid;
            case "payRange":
                Set<Integer> due = placesBetween(a[0], a[1]);
                due.retainAll(state.debts.keySet());
                due.forEach(p -> then.pay(p, 2));
                return due.size();
            case "shorten":
                places(a[0]);
                argument(state.debts.containsKey(a[0]));
                then.debts.put(a[0], new Debt(state.root(a[0]), state.debts.get(a[0]).promise));
                return state.hops(a[0]) - 1;
            case "setLock":
                places(a[0]);
                if (a[1] == 1) {
                    return then.lock(a[0]);
                }
                then.locked.remove(a[0]);
                return 0;
            case "setSetting":
                argument(a[0] >= 0 && a[0] <= 4);
                argument(a[1] >= (a[0] == 0 ? 1 : 0) && a[1] <= new int[] {20, 96, 3, 1, 1}[a[0]]);
                set(then, a[0], a[1]);
                then.keepLimit();
                return setting(a[0]);
            default:
                throw new AssertionError("no such method: " + method);
        }
    }

    private static void set(State then, int what, int value) {
        switch (what) {
            case 0 -> then.band = value;
            case 1 -> then.limit = value;
            case 2 -> then.policy = value;
            case 3 -> then.isShort = value == 1;
            default -> then.settles = value == 1;
        }
    }
}
