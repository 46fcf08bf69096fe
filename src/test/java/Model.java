import java.util.ArrayList;
import java.util.HashSet;
import java.util.LinkedList;
import java.util.List;
import java.util.Set;

/**
 * The document once more, written as it reads and without regard to cost: contracts are a list in
 * the order of their making, states are copied whole, and errors are exceptions.
 */
final class Model {
    static final class Fault extends RuntimeException {
        private static final long serialVersionUID = 1;
        final int code;
        final int position;

        Fault(int code, int position) {
            this.code = code;
            this.position = position;
        }
    }

    static final class State {
        List<String> echoNames = new ArrayList<>();
        List<String> valleyNames = new ArrayList<>();
        /** Delay, repeats, reserve wage, resistance, savings, unpaid days, desertions. */
        List<int[]> echoes = new ArrayList<>();
        /** Width, posts, wage, purse, replies, paid. */
        List<int[]> valleys = new ArrayList<>();
        /** Valley and echo, the oldest contract first. */
        List<int[]> contracts = new ArrayList<>();
        Set<Integer> tested = new HashSet<>();
        Set<Integer> deserted = new HashSet<>();
        int[] served = new int[800];
        int day;
        int made;
        int ended;

        State copy() {
            State other = new State();
            other.echoNames.addAll(echoNames);
            other.valleyNames.addAll(valleyNames);
            echoes.forEach(row -> other.echoes.add(row.clone()));
            valleys.forEach(row -> other.valleys.add(row.clone()));
            contracts.forEach(row -> other.contracts.add(row.clone()));
            other.tested.addAll(tested);
            other.deserted.addAll(deserted);
            other.served = served.clone();
            other.day = day;
            other.made = made;
            other.ended = ended;
            return other;
        }

        int employer(int echo) {
            return contracts.stream().filter(c -> c[1] == echo).mapToInt(c -> c[0]).findFirst()
                .orElse(-1);
        }

        List<Integer> staff(int valley) {
            List<Integer> staff = new ArrayList<>();
            contracts.stream().filter(c -> c[0] == valley).forEach(c -> staff.add(c[1]));
            return staff;
        }

        void end(int echo) {
            if (contracts.removeIf(c -> c[1] == echo)) {
                ended++;
                echoes.get(echo)[5] = 0;
            }
        }

        int trueScore(int valley, int echo) {
            return 10 * echoes.get(echo)[1]
                - 4 * Math.abs(echoes.get(echo)[0] - valleys.get(valley)[0]);
        }

        int seen(int valley, int echo) {
            return tested.contains(valley * 100 + echo) ? trueScore(valley, echo) : 30;
        }

        int reason(int valley, int echo) {
            if (valleys.get(valley)[2] < echoes.get(echo)[2]) {
                return 1;
            }
            if (seen(valley, echo) < 1) {
                return 2;
            }
            return deserted.contains(valley * 100 + echo) ? 3 : 0;
        }

        List<Integer> valleysFor(int echo) {
            List<Integer> found = new ArrayList<>();
            for (int valley = 0; valley < valleys.size(); valley++) {
                if (reason(valley, echo) == 0) {
                    found.add(valley);
                }
            }
            found.sort((a, b) -> valleys.get(a)[2] != valleys.get(b)[2]
                ? valleys.get(b)[2] - valleys.get(a)[2] : a - b);
            return found;
        }

        void sortByScore(int valley, List<Integer> list) {
            list.sort((a, b) -> seen(valley, a) != seen(valley, b)
                ? seen(valley, b) - seen(valley, a) : a - b);
        }

        List<Integer> echoesFor(int valley) {
            List<Integer> found = new ArrayList<>();
            for (int echo = 0; echo < echoes.size(); echo++) {
                if (reason(valley, echo) == 0) {
                    found.add(echo);
                }
            }
            sortByScore(valley, found);
            return found;
        }

        int fair() {
            LinkedList<Integer> queue = new LinkedList<>();
            List<List<Integer>> wishes = new ArrayList<>();
            List<List<Integer>> kept = new ArrayList<>();
            for (int echo = 0; echo < echoes.size(); echo++) {
                wishes.add(valleysFor(echo));
                if (employer(echo) == -1) {
                    queue.add(echo);
                }
            }
            for (int valley = 0; valley < valleys.size(); valley++) {
                kept.add(new ArrayList<>());
            }
            while (!queue.isEmpty()) {
                int echo = queue.removeFirst();
                if (wishes.get(echo).isEmpty()) {
                    continue;
                }
                int valley = wishes.get(echo).remove(0);
                int free = valleys.get(valley)[1] - staff(valley).size();
                kept.get(valley).add(echo);
                sortByScore(valley, kept.get(valley));
                if (kept.get(valley).size() > free) {
                    queue.addLast(kept.get(valley).remove(free));
                }
            }
            int before = made;
            for (int valley = 0; valley < valleys.size(); valley++) {
                kept.get(valley).sort(null);
                for (int echo : kept.get(valley)) {
                    contracts.add(new int[] {valley, echo});
                    made++;
                }
            }
            return made - before;
        }

        int blocking() {
            int pairs = 0;
            for (int valley = 0; valley < valleys.size(); valley++) {
                for (int echo : echoesFor(valley)) {
                    List<Integer> wishes = valleysFor(echo);
                    int now = wishes.indexOf(employer(echo));
                    boolean wants = now < 0 || wishes.indexOf(valley) < now;
                    List<Integer> staff = staff(valley);
                    boolean takes = staff.size() < valleys.get(valley)[1];
                    for (int other : staff) {
                        List<Integer> both = new ArrayList<>(List.of(echo, other));
                        sortByScore(valley, both);
                        takes |= both.get(0) == echo;
                    }
                    if (employer(echo) != valley && wants && takes) {
                        pairs++;
                    }
                }
            }
            return pairs;
        }
    }

    int season;
    List<Integer> fog = new ArrayList<>();
    State now;
    State saved;
    List<State> undone = new ArrayList<>();
    String input = "";
    String output = "";
    int errorCode;
    int errorPosition = -1;

    Model() {
        input = "fair 5;fog 2 7 4;echo yodel 3 6 9 5;echo mumble 8 2 4 1;echo bell 5 9 14 8;"
            + "echo horn 4 5 6 3;valley green 4 1 10 60;valley deep 8 2 8 5;valley old 2 1 15 30;"
            + "tested green yodel;tested deep mumble;tested old horn;";
        load();
    }

    // Texts.

    private String text;
    private int at;

    private String token() {
        while (at < text.length() && text.charAt(at) == ' ') {
            at++;
        }
        String rest = text.substring(at);
        for (String pattern : new String[] {"[a-z]+", "[0-9]+"}) {
            java.util.regex.Matcher matcher = java.util.regex.Pattern.compile(pattern).matcher(rest);
            if (matcher.lookingAt()) {
                return matcher.group();
            }
        }
        return rest.isEmpty() ? "" : rest.substring(0, 1);
    }

    private void expect(String want) {
        if (!token().equals(want)) {
            throw new Fault(1, at);
        }
        at += want.length();
    }

    private int number(int least, int most) {
        String token = token();
        if (!token.matches("[0-9]{1,4}")) {
            throw new Fault(1, at);
        }
        int value = Integer.parseInt(token);
        if (value < least || value > most) {
            throw new Fault(2, at);
        }
        at += token.length();
        return value;
    }

    private String name() {
        String token = token();
        if (!token.matches("[a-z]{1,6}")) {
            throw new Fault(1, at);
        }
        return token;
    }

    private String freshName(List<String> names) {
        String name = name();
        if (names.contains(name)) {
            throw new Fault(3, at);
        }
        at += name.length();
        return name;
    }

    private int known(List<String> names) {
        String name = name();
        if (!names.contains(name)) {
            throw new Fault(3, at);
        }
        at += name.length();
        return names.indexOf(name);
    }

    int load() {
        State next = new State();
        int newSeason;
        List<Integer> newFog = new ArrayList<>();
        try {
            text = input;
            at = 0;
            expect("fair");
            newSeason = number(1, 30);
            expect(";");
            expect("fog");
            newFog.add(number(0, 9));
            while (!token().equals(";")) {
                int place = at;
                newFog.add(number(0, 9));
                if (newFog.size() > 12) {
                    throw new Fault(4, place);
                }
            }
            expect(";");
            while (!token().isEmpty()) {
                statement(next);
            }
            if (next.echoes.isEmpty() || next.valleys.isEmpty()) {
                throw new Fault(1, text.length());
            }
        } catch (Fault fault) {
            failed(fault);
            throw new IllegalArgumentException();
        }
        input = "";
        errorCode = 0;
        errorPosition = -1;
        season = newSeason;
        fog = newFog;
        now = next;
        undone.clear();
        return next.echoes.size();
    }

    private void failed(Fault fault) {
        input = "";
        errorCode = fault.code;
        errorPosition = fault.position;
    }

    private void statement(State next) {
        int place = at;
        String word = token();
        at += word.length();
        switch (word) {
            case "echo":
                if (next.echoes.size() == 12) {
                    throw new Fault(4, place);
                }
                String echo = freshName(next.echoNames);
                next.echoes.add(new int[] {number(1, 9), number(1, 9), number(1, 99),
                    number(0, 9), 0, 0, 0});
                next.echoNames.add(echo);
                break;
            case "valley":
                if (next.valleys.size() == 8) {
                    throw new Fault(4, place);
                }
                String valley = freshName(next.valleyNames);
                next.valleys.add(new int[] {number(1, 9), number(1, 3), number(1, 99),
                    number(0, 9999), 0, 0});
                next.valleyNames.add(valley);
                break;
            case "tested":
                int first = known(next.valleyNames);
                next.tested.add(first * 100 + known(next.echoNames));
                break;
            default:
                throw new Fault(1, place);
        }
        expect(";");
    }

    int executeCommands() {
        List<Runnable> commands = new ArrayList<>();
        try {
            text = input;
            at = 0;
            while (!token().isEmpty()) {
                commands.add(command(commands.size()));
                expect(";");
            }
        } catch (Fault fault) {
            failed(fault);
            throw new IllegalArgumentException();
        }
        input = "";
        errorCode = 0;
        errorPosition = -1;
        remember();
        for (int i = 0; i < commands.size(); i++) {
            List<State> kept = new ArrayList<>(undone);
            try {
                commands.get(i).run();
            } catch (IllegalStateException e) {
                return i;
            } finally {
                undone = kept;
            }
        }
        return commands.size();
    }

    private Runnable command(int before) {
        int place = at;
        String word = token();
        if (!List.of("pass", "fair", "test", "dismiss", "wage", "fund", "train").contains(word)) {
            throw new Fault(1, place);
        }
        if (before == 30) {
            throw new Fault(4, place);
        }
        at += word.length();
        if (word.equals("fair")) {
            return this::holdFair;
        }
        if (word.equals("pass")) {
            int days = number(1, 60);
            return () -> passDays(days);
        }
        if (word.equals("dismiss") || word.equals("train")) {
            int echo = known(now.echoNames);
            return word.equals("train") ? () -> train(echo) : () -> dismiss(echo);
        }
        int valley = known(now.valleyNames);
        if (word.equals("test")) {
            int echo = known(now.echoNames);
            return () -> test(valley, echo);
        }
        int value = number(1, word.equals("wage") ? 99 : 999);
        return word.equals("wage") ? () -> setWage(valley, value) : () -> fund(valley, value);
    }

    // Days and simulations.

    int fogOf(int day) {
        return fog.get(day % fog.size());
    }

    int pass(State state) {
        if (state.day % season == 0) {
            for (int echo = 0; echo < state.echoes.size(); echo++) {
                state.end(echo);
            }
            state.deserted.clear();
            state.fair();
        }
        for (int valley = 0; valley < state.valleys.size(); valley++) {
            int[] row = state.valleys.get(valley);
            for (int echo : state.staff(valley)) {
                state.served[valley * 100 + echo]++;
                row[3] += row[0] * state.echoes.get(echo)[1];
                row[4] += state.echoes.get(echo)[1];
            }
            for (int echo : state.staff(valley)) {
                int pay = row[2] * state.echoes.get(echo)[1];
                boolean paid = row[3] >= pay;
                row[3] -= paid ? pay : 0;
                row[5] += paid ? pay : 0;
                state.echoes.get(echo)[4] += paid ? pay : 0;
                state.echoes.get(echo)[5] = paid ? 0 : state.echoes.get(echo)[5] + 1;
            }
        }
        int count = 0;
        for (int echo = 0; echo < state.echoes.size(); echo++) {
            int[] row = state.echoes.get(echo);
            int employer = state.employer(echo);
            if (employer != -1
                && (row[5] >= 2 || row[5] == 1 && fogOf(state.day) > row[3])) {
                state.end(echo);
                state.deserted.add(employer * 100 + echo);
                row[6]++;
                count++;
            }
        }
        state.day++;
        return count;
    }

    State after(int days) {
        State state = now.copy();
        for (int i = 0; i < days; i++) {
            pass(state);
        }
        return state;
    }

    int desertsIn(int echo) {
        State state = now.copy();
        for (int days = 1; days <= 120; days++) {
            pass(state);
            if (state.echoes.get(echo)[6] == now.echoes.get(echo)[6] + 1) {
                return days;
            }
        }
        return -1;
    }

    int fairResult(int echo) {
        State state = now.copy();
        state.fair();
        return state.employer(echo);
    }

    int leastWage(int valley, int echo) {
        for (int wage = 1; wage <= 99; wage++) {
            State state = now.copy();
            state.valleys.get(valley)[2] = wage;
            state.fair();
            if (state.employer(echo) == valley) {
                return wage;
            }
        }
        return -1;
    }

    int bestTest(int valley) {
        int best = -1;
        for (int echo = now.echoes.size() - 1; echo >= 0; echo--) {
            if (now.employer(echo) == -1 && !now.tested.contains(valley * 100 + echo)
                && (best == -1 || now.trueScore(valley, echo) >= now.trueScore(valley, best))) {
                best = echo;
            }
        }
        return best;
    }

    // Operations.

    private void remember() {
        undone.add(now.copy());
        if (undone.size() > 8) {
            undone.remove(0);
        }
    }

    int passDays(int days) {
        remember();
        int count = 0;
        for (int i = 0; i < days; i++) {
            count += pass(now);
        }
        return count;
    }

    int holdFair() {
        remember();
        return now.fair();
    }

    int test(int valley, int echo) {
        if (now.tested.contains(valley * 100 + echo) || now.employer(echo) != -1) {
            throw new IllegalStateException();
        }
        remember();
        now.tested.add(valley * 100 + echo);
        return now.trueScore(valley, echo);
    }

    int dismiss(int echo) {
        int employer = now.employer(echo);
        if (employer == -1) {
            throw new IllegalStateException();
        }
        remember();
        now.end(echo);
        return employer;
    }

    int setWage(int valley, int wage) {
        remember();
        int before = now.valleys.get(valley)[2];
        now.valleys.get(valley)[2] = wage;
        return before;
    }

    int fund(int valley, int amount) {
        remember();
        return now.valleys.get(valley)[3] += amount;
    }

    int train(int echo) {
        int[] row = now.echoes.get(echo);
        if (row[1] == 9 || row[4] < 10 * row[1]) {
            throw new IllegalStateException();
        }
        remember();
        row = now.echoes.get(echo);
        row[4] -= 10 * row[1];
        return ++row[1];
    }

    int undo() {
        if (undone.isEmpty()) {
            throw new IllegalStateException();
        }
        now = undone.remove(undone.size() - 1);
        return undone.size();
    }

    int save() {
        saved = now.copy();
        return now.day;
    }

    int restore() {
        if (saved == null) {
            throw new IllegalStateException();
        }
        now = saved.copy();
        undone.clear();
        return now.day;
    }

    int formatContracts() {
        List<String> parts = new ArrayList<>();
        for (int valley = 0; valley < now.valleys.size(); valley++) {
            List<String> names = new ArrayList<>();
            now.staff(valley).forEach(echo -> names.add(now.echoNames.get(echo)));
            parts.add(now.valleyNames.get(valley) + "=" + String.join("+", names));
        }
        output = String.join(" ", parts);
        return output.length();
    }
}
