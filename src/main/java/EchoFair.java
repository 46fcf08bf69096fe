/**
 * A simulator of a hiring fair at which echoes look for work in valleys.
 *
 * <p>Every row that a call needs is made in the constructor and used again, so that no later call
 * makes an object or an array.
 */
public final class EchoFair {
    public static final int NONE = -1;
    public static final int SYNTAX_ERROR = 1;
    public static final int RANGE_ERROR = 2;
    public static final int NAME_ERROR = 3;
    public static final int LIMIT_ERROR = 4;
    public static final int ACCEPTABLE = 0;
    public static final int WAGE_TOO_LOW = 1;
    public static final int SCORE_TOO_LOW = 2;
    public static final int DESERTED = 3;

    private static final int MAX_ECHOES = 12;
    private static final int MAX_VALLEYS = 8;
    private static final int MAX_POSTS = 3;
    private static final int MAX_WAGE = 99;
    private static final int MAX_REPEATS = 9;
    private static final int MAX_FUND = 999;
    private static final int MAX_PURSE = 9999;
    private static final int MAX_SEASON = 30;
    private static final int MAX_FOG_LEVELS = 12;
    private static final int MAX_FOG_DAY = 9999;
    private static final int MAX_PASSED_DAYS = 60;
    private static final int MAX_SIMULATED_DAYS = 120;
    private static final int MAX_INPUT = 900;
    private static final int APPENDED_BYTES = 20;
    private static final int MAX_COMMANDS = 30;
    private static final int MAX_UNDO = 8;
    private static final int MAX_NAME_LETTERS = 6;
    private static final int MAX_DIGITS = 4;
    private static final int UNTESTED_SCORE = 30;

    /** Eight names of valleys, twelve of echoes and all signs between them need 143 bytes. */
    private static final int MAX_OUTPUT = 160;

    private static final String FIRST_CONFIGURATION =
        "fair 5;fog 2 7 4;echo yodel 3 6 9 5;echo mumble 8 2 4 1;echo bell 5 9 14 8;echo horn 4 5 6 3;valley green 4 1 10 60;valley deep 8 2 8 5;valley old 2 1 15 30;tested green yodel;tested deep mumble;tested old horn;";

    private final Buffer input = new Buffer(MAX_INPUT);
    private final Buffer output = new Buffer(MAX_OUTPUT);
    private final Season season = new Season();
    private final World world = new World();
    /** Simulations and the parser of configurations work here, and leave the world as it is. */
    private final World draft = new World();
    private final Season draftSeason = new Season();
    private final World saved = new World();
    private boolean hasSaved;
    private final History history = new History();
    private final Matching matching = new Matching();
    private final Tokens tokens = new Tokens(input);
    private final Configuration configuration = new Configuration(tokens, draft, draftSeason);
    private final Commands commands = new Commands(tokens);
    private int lastErrorCode;
    private int lastErrorPosition = NONE;

    public EchoFair() {
        for (int i = 0; i < FIRST_CONFIGURATION.length(); i++) {
            input.add(FIRST_CONFIGURATION.charAt(i));
        }
        if (configuration.parse()) {
            adoptDraft();
        }
        input.length = 0;
    }

    // The input buffer and the texts.

    public int append(int a, int b, int c, int d, int e) throws IllegalStateException {
        if (input.length + APPENDED_BYTES > MAX_INPUT) {
            throw new IllegalStateException("the input buffer is full");
        }
        input.addInt(a);
        input.addInt(b);
        input.addInt(c);
        input.addInt(d);
        input.addInt(e);
        return input.length;
    }

    public int truncate(int length) throws IllegalArgumentException {
        if (length < 0 || length > input.length) {
            throw new IllegalArgumentException("no such length");
        }
        input.length = length;
        return length;
    }

    public int load() throws IllegalArgumentException {
        boolean valid = configuration.parse();
        noteErrors();
        input.length = 0;
        if (!valid) {
            throw new IllegalArgumentException("the configuration has an error");
        }
        adoptDraft();
        return world.echoCount;
    }

    public int executeCommands() throws IllegalArgumentException {
        boolean valid = commands.parse(world);
        noteErrors();
        input.length = 0;
        if (!valid) {
            throw new IllegalArgumentException("the command text has an error");
        }
        history.push(world);
        for (int command = 0; command < commands.count; command++) {
            if (!perform(command)) {
                return command;
            }
        }
        return commands.count;
    }

    public int errorCode() {
        return lastErrorCode;
    }

    public int errorPosition() {
        return lastErrorPosition;
    }

    // The echoes, the valleys and the clock.

    public int echoCount() {
        return world.echoCount;
    }

    public int valleyCount() {
        return world.valleyCount;
    }

    public int day() {
        return world.today;
    }

    public int seasonLength() {
        return season.length;
    }

    public int fogOf(int day) throws IllegalArgumentException {
        if (day < 0 || day > MAX_FOG_DAY) {
            throw new IllegalArgumentException("no such day");
        }
        return season.fogOn(day);
    }

    public int findEcho() {
        return world.echoNamed(input.nameAt(0, input.length));
    }

    public int findValley() {
        return world.valleyNamed(input.nameAt(0, input.length));
    }

    public int delayOf(int echo) throws IndexOutOfBoundsException {
        return echoAt(echo).delay;
    }

    public int repeatsOf(int echo) throws IndexOutOfBoundsException {
        return echoAt(echo).repeats;
    }

    public int reserveWage(int echo) throws IndexOutOfBoundsException {
        return echoAt(echo).reserve;
    }

    public int resistanceOf(int echo) throws IndexOutOfBoundsException {
        return echoAt(echo).resistance;
    }

    public int savingsOf(int echo) throws IndexOutOfBoundsException {
        return echoAt(echo).savings;
    }

    public int unpaidDays(int echo) throws IndexOutOfBoundsException {
        return echoAt(echo).unpaid;
    }

    public int employerOf(int echo) throws IndexOutOfBoundsException {
        return echoAt(echo).employer;
    }

    public int widthOf(int valley) throws IndexOutOfBoundsException {
        return valleyAt(valley).width;
    }

    public int postsOf(int valley) throws IndexOutOfBoundsException {
        return valleyAt(valley).posts;
    }

    public int wageOf(int valley) throws IndexOutOfBoundsException {
        return valleyAt(valley).wage;
    }

    public int purseOf(int valley) throws IndexOutOfBoundsException {
        return valleyAt(valley).purse;
    }

    public int staffCount(int valley) throws IndexOutOfBoundsException {
        return valleyAt(valley).staffed;
    }

    public int staffMember(int valley, int index) throws IndexOutOfBoundsException {
        Valley employer = valleyAt(valley);
        if (index < 0 || index >= employer.staffed) {
            return NONE;
        }
        return employer.staff[index];
    }

    // Pairs and preferences.

    public boolean isTested(int valley, int echo) throws IndexOutOfBoundsException {
        requirePair(valley, echo);
        return world.valleys[valley].hasTested(echo);
    }

    public int seenScore(int valley, int echo) throws IndexOutOfBoundsException {
        requirePair(valley, echo);
        return world.scoreSeen(valley, echo);
    }

    public int pairReason(int valley, int echo) throws IndexOutOfBoundsException {
        requirePair(valley, echo);
        return world.reasonAt(valley, echo, world.scoreSeen(valley, echo));
    }

    public int preferredValley(int echo, int rank) throws IndexOutOfBoundsException {
        requireEcho(echo);
        for (int valley = 0; valley < world.valleyCount; valley++) {
            if (world.isAcceptable(valley, echo) && world.rankOfValley(valley, echo) == rank) {
                return valley;
            }
        }
        return NONE;
    }

    public int preferredEcho(int valley, int rank) throws IndexOutOfBoundsException {
        requireValley(valley);
        for (int echo = 0; echo < world.echoCount; echo++) {
            if (world.isAcceptable(valley, echo) && world.rankOfEcho(valley, echo) == rank) {
                return echo;
            }
        }
        return NONE;
    }

    public int blockingPairs() {
        int pairs = 0;
        for (int valley = 0; valley < world.valleyCount; valley++) {
            for (int echo = 0; echo < world.echoCount; echo++) {
                if (world.isBlocking(valley, echo)) {
                    pairs++;
                }
            }
        }
        return pairs;
    }

    // Simulations.

    public int fairResult(int echo) throws IndexOutOfBoundsException {
        requireEcho(echo);
        draft.copyFrom(world);
        matching.hold(draft);
        return draft.echoes[echo].employer;
    }

    public int savingsAfter(int echo, int days)
            throws IndexOutOfBoundsException, IllegalArgumentException {
        requireEcho(echo);
        simulate(days);
        return draft.echoes[echo].savings;
    }

    public int purseAfter(int valley, int days)
            throws IndexOutOfBoundsException, IllegalArgumentException {
        requireValley(valley);
        simulate(days);
        return draft.valleys[valley].purse;
    }

    public int desertsIn(int echo) throws IndexOutOfBoundsException {
        requireEcho(echo);
        draft.copyFrom(world);
        int before = world.echoes[echo].desertions;
        for (int days = 1; days <= MAX_SIMULATED_DAYS; days++) {
            letDaysPass(draft, 1);
            if (draft.echoes[echo].desertions != before) {
                return days;
            }
        }
        return NONE;
    }

    public int leastWage(int valley, int echo) throws IndexOutOfBoundsException {
        requirePair(valley, echo);
        for (int wage = 1; wage <= MAX_WAGE; wage++) {
            draft.copyFrom(world);
            draft.valleys[valley].wage = wage;
            matching.hold(draft);
            if (draft.echoes[echo].employer == valley) {
                return wage;
            }
        }
        return NONE;
    }

    public int bestTest(int valley) throws IndexOutOfBoundsException {
        requireValley(valley);
        int best = NONE;
        int bestScore = 0;
        for (int echo = 0; echo < world.echoCount; echo++) {
            int score = world.trueScore(valley, echo);
            if (world.canTest(valley, echo) && (best == NONE || score > bestScore)) {
                best = echo;
                bestScore = score;
            }
        }
        return best;
    }

    public int richestEcho() {
        int richest = 0;
        for (int echo = 1; echo < world.echoCount; echo++) {
            if (world.echoes[echo].savings > world.echoes[richest].savings) {
                richest = echo;
            }
        }
        return richest;
    }

    // Counters and balances.

    public int daysServed(int valley, int echo) throws IndexOutOfBoundsException {
        requirePair(valley, echo);
        return world.valleys[valley].served[echo];
    }

    public int contractsMade() {
        return world.made;
    }

    public int contractsEnded() {
        return world.ended;
    }

    public int desertions(int echo) throws IndexOutOfBoundsException {
        return echoAt(echo).desertions;
    }

    public int repliesHeard(int valley) throws IndexOutOfBoundsException {
        return valleyAt(valley).replies;
    }

    public int wagesPaid(int valley) throws IndexOutOfBoundsException {
        return valleyAt(valley).paid;
    }

    public int moneyImbalance() {
        return world.moneyAtStart + world.earned + world.funded - world.trainingCost
            - world.moneyInPurses() - world.moneySaved();
    }

    public int contractImbalance() {
        return world.made - world.ended - world.contracts();
    }

    public int doubleServants() {
        int servants = 0;
        for (int echo = 0; echo < world.echoCount; echo++) {
            if (world.valleysServedBy(echo) > 1) {
                servants++;
            }
        }
        return servants;
    }

    public double meanSavings() {
        if (world.echoCount < 1) {
            return 0.0;
        }
        return (double) world.moneySaved() / (double) world.echoCount;
    }

    public float employmentRate() {
        if (world.echoCount < 1) {
            return 0.0f;
        }
        int employed = 0;
        for (int echo = 0; echo < world.echoCount; echo++) {
            if (world.echoes[echo].employer != NONE) {
                employed++;
            }
        }
        return (float) employed / (float) world.echoCount;
    }

    // Operations.

    public int passDays(int days) throws IllegalArgumentException {
        if (days < 1 || days > MAX_PASSED_DAYS) {
            throw new IllegalArgumentException("no such number of days");
        }
        history.push(world);
        return letDaysPass(world, days);
    }

    public int holdFair() {
        history.push(world);
        return matching.hold(world);
    }

    public int test(int valley, int echo)
            throws IndexOutOfBoundsException, IllegalStateException {
        requirePair(valley, echo);
        if (!world.canTest(valley, echo)) {
            throw new IllegalStateException("the echo is tested or has a contract");
        }
        history.push(world);
        world.valleys[valley].noteTest(echo);
        return world.trueScore(valley, echo);
    }

    public int dismiss(int echo) throws IndexOutOfBoundsException, IllegalStateException {
        int employer = echoAt(echo).employer;
        if (employer == NONE) {
            throw new IllegalStateException("the echo has no contract");
        }
        history.push(world);
        world.endContract(echo);
        return employer;
    }

    public int setWage(int valley, int wage)
            throws IndexOutOfBoundsException, IllegalArgumentException {
        Valley employer = valleyAt(valley);
        if (wage < 1 || wage > MAX_WAGE) {
            throw new IllegalArgumentException("no such wage");
        }
        history.push(world);
        int previous = employer.wage;
        employer.wage = wage;
        return previous;
    }

    public int fund(int valley, int amount)
            throws IndexOutOfBoundsException, IllegalArgumentException {
        Valley receiver = valleyAt(valley);
        if (amount < 1 || amount > MAX_FUND) {
            throw new IllegalArgumentException("no such amount");
        }
        history.push(world);
        world.putMoney(valley, amount);
        return receiver.purse;
    }

    public int train(int echo) throws IndexOutOfBoundsException, IllegalStateException {
        Echo pupil = echoAt(echo);
        if (!pupil.canLearn()) {
            throw new IllegalStateException("the echo cannot be trained");
        }
        history.push(world);
        world.teach(echo);
        return pupil.repeats;
    }

    // Undo, the saved state and the output.

    public int undo() throws IllegalStateException {
        if (history.count < 1) {
            throw new IllegalStateException("there is no operation to undo");
        }
        history.pop(world);
        return history.count;
    }

    public int save() {
        saved.copyFrom(world);
        hasSaved = true;
        return world.today;
    }

    public int restore() throws IllegalStateException {
        if (!hasSaved) {
            throw new IllegalStateException("there is no saved state");
        }
        world.copyFrom(saved);
        history.count = 0;
        return world.today;
    }

    public int formatContracts() {
        output.length = 0;
        for (int valley = 0; valley < world.valleyCount; valley++) {
            if (valley > 0) {
                output.add(' ');
            }
            writeContracts(world.valleys[valley]);
        }
        return output.length;
    }

    public int outputByte(int index) {
        if (index < 0 || index >= output.length) {
            return NONE;
        }
        return output.bytes[index];
    }

    // What several methods of the face share.

    private void requireEcho(int echo) {
        if (echo < 0 || echo >= world.echoCount) {
            throw new IndexOutOfBoundsException("no such echo");
        }
    }

    private void requireValley(int valley) {
        if (valley < 0 || valley >= world.valleyCount) {
            throw new IndexOutOfBoundsException("no such valley");
        }
    }

    private void requirePair(int valley, int echo) {
        requireValley(valley);
        requireEcho(echo);
    }

    private Echo echoAt(int echo) {
        requireEcho(echo);
        return world.echoes[echo];
    }

    private Valley valleyAt(int valley) {
        requireValley(valley);
        return world.valleys[valley];
    }

    private void adoptDraft() {
        world.copyFrom(draft);
        season.copyFrom(draftSeason);
        history.count = 0;
    }

    private void noteErrors() {
        lastErrorCode = tokens.errorCode;
        lastErrorPosition = tokens.errorPosition;
    }

    private void simulate(int days) {
        if (days < 0 || days > MAX_SIMULATED_DAYS) {
            throw new IllegalArgumentException("no such number of days");
        }
        draft.copyFrom(world);
        letDaysPass(draft, days);
    }

    private int letDaysPass(World place, int days) {
        int deserted = 0;
        for (int i = 0; i < days; i++) {
            if (season.startsOn(place.today)) {
                place.endSeason();
                matching.hold(place);
            }
            place.work();
            deserted += place.desert(season.fogOn(place.today));
            place.today++;
        }
        return deserted;
    }

    /** Answers whether the command could be executed; if not, nothing has changed. */
    private boolean perform(int command) {
        int first = commands.first[command];
        int second = commands.second[command];
        switch (commands.verb[command]) {
            case Commands.PASS:
                letDaysPass(world, first);
                return true;
            case Commands.FAIR:
                matching.hold(world);
                return true;
            case Commands.TEST:
                if (!world.canTest(first, second)) {
                    return false;
                }
                world.valleys[first].noteTest(second);
                return true;
            case Commands.DISMISS:
                if (world.echoes[first].employer == NONE) {
                    return false;
                }
                world.endContract(first);
                return true;
            case Commands.WAGE:
                world.valleys[first].wage = second;
                return true;
            case Commands.FUND:
                world.putMoney(first, second);
                return true;
            case Commands.TRAIN:
                if (!world.echoes[first].canLearn()) {
                    return false;
                }
                world.teach(first);
                return true;
            default:
                return false;
        }
    }

    private void writeContracts(Valley valley) {
        output.addName(valley.name);
        output.add('=');
        for (int i = 0; i < valley.staffed; i++) {
            if (i > 0) {
                output.add('+');
            }
            output.addName(world.echoes[valley.staff[i]].name);
        }
    }

    /** Bytes with a length. A name is kept as a number: a byte for each letter, the last lowest. */
    private static final class Buffer {
        final byte[] bytes;
        int length;

        Buffer(int room) {
            bytes = new byte[Math.max(room, 0)];
        }

        void add(int value) {
            if (length < bytes.length) {
                bytes[length] = (byte) value;
                length++;
            }
        }

        void addInt(int value) {
            add(value >> 24);
            add(value >> 16);
            add(value >> 8);
            add(value);
        }

        void addName(long name) {
            for (int shift = 8 * (MAX_NAME_LETTERS - 1); shift >= 0; shift -= 8) {
                int letter = (int) (name >> shift) & 255;
                if (letter != 0) {
                    add(letter);
                }
            }
        }

        /** The byte, or NONE behind the end; bytes over 127 count as 128 and more. */
        int byteAt(int index) {
            if (index < 0 || index >= length) {
                return NONE;
            }
            return bytes[index] & 255;
        }

        /** The name that stands in these bytes, or 0 if they are no name. */
        long nameAt(int start, int size) {
            if (size < 1 || size > MAX_NAME_LETTERS) {
                return 0;
            }
            long name = 0;
            for (int i = 0; i < size; i++) {
                int letter = byteAt(start + i);
                if (letter < 'a' || letter > 'z') {
                    return 0;
                }
                name = (name << 8) | letter;
            }
            return name;
        }
    }

    private static final class Echo {
        long name;
        int delay;
        int repeats;
        int reserve;
        int resistance;
        int savings;
        int unpaid;
        int employer = NONE;
        int desertions;

        void start(long newName) {
            name = newName;
            savings = 0;
            unpaid = 0;
            employer = NONE;
            desertions = 0;
        }

        void copyFrom(Echo other) {
            name = other.name;
            delay = other.delay;
            repeats = other.repeats;
            reserve = other.reserve;
            resistance = other.resistance;
            savings = other.savings;
            unpaid = other.unpaid;
            employer = other.employer;
            desertions = other.desertions;
        }

        int lessonPrice() {
            return 10 * repeats;
        }

        boolean canLearn() {
            return repeats < MAX_REPEATS && savings >= lessonPrice();
        }

        boolean leavesIn(int fog) {
            return unpaid >= 2 || unpaid == 1 && fog > resistance;
        }
    }

    private static final class Valley {
        long name;
        int width;
        int posts;
        int wage;
        int purse;
        /** The echoes that serve, the oldest contract first. */
        final int[] staff = new int[MAX_POSTS];
        int staffed;
        /** A bit for each echo. */
        int tested;
        /** A bit for each echo, set until the season ends. */
        int desertedBy;
        final int[] served = new int[MAX_ECHOES];
        int replies;
        int paid;

        void start(long newName) {
            name = newName;
            staffed = 0;
            tested = 0;
            desertedBy = 0;
            for (int echo = 0; echo < served.length; echo++) {
                served[echo] = 0;
            }
            replies = 0;
            paid = 0;
        }

        void copyFrom(Valley other) {
            name = other.name;
            width = other.width;
            posts = other.posts;
            wage = other.wage;
            purse = other.purse;
            System.arraycopy(other.staff, 0, staff, 0, MAX_POSTS);
            staffed = other.staffed;
            tested = other.tested;
            desertedBy = other.desertedBy;
            System.arraycopy(other.served, 0, served, 0, MAX_ECHOES);
            replies = other.replies;
            paid = other.paid;
        }

        boolean hasTested(int echo) {
            return (tested >> echo & 1) == 1;
        }

        void noteTest(int echo) {
            tested |= 1 << echo;
        }

        boolean hasLost(int echo) {
            return (desertedBy >> echo & 1) == 1;
        }

        boolean hasFreePost() {
            return staffed < posts;
        }

        void hire(int echo) {
            if (staffed < staff.length) {
                staff[staffed] = echo;
                staffed++;
            }
        }

        void release(int echo) {
            int left = 0;
            for (int i = 0; i < staffed; i++) {
                if (staff[i] != echo) {
                    staff[left] = staff[i];
                    left++;
                }
            }
            staffed = left;
        }
    }

    /** The season length and the fog, which only a configuration changes. */
    private static final class Season {
        int length = 1;
        final int[] fog = new int[MAX_FOG_LEVELS];
        int levels;

        void copyFrom(Season other) {
            length = other.length;
            System.arraycopy(other.fog, 0, fog, 0, MAX_FOG_LEVELS);
            levels = other.levels;
        }

        boolean startsOn(int day) {
            return length > 0 && day % length == 0;
        }

        int fogOn(int day) {
            if (levels < 1 || levels > fog.length) {
                return 0;
            }
            return fog[Math.floorMod(day, levels)];
        }

        void addLevel(int level) {
            if (levels < fog.length) {
                fog[levels] = level;
                levels++;
            }
        }
    }

    /** All that save saves and that undo brings back. */
    private static final class World {
        final Echo[] echoes = new Echo[MAX_ECHOES];
        final Valley[] valleys = new Valley[MAX_VALLEYS];
        int echoCount;
        int valleyCount;
        int today;
        int made;
        int ended;
        int moneyAtStart;
        int earned;
        int funded;
        int trainingCost;

        World() {
            for (int echo = 0; echo < MAX_ECHOES; echo++) {
                echoes[echo] = new Echo();
            }
            for (int valley = 0; valley < MAX_VALLEYS; valley++) {
                valleys[valley] = new Valley();
            }
        }

        void clear() {
            echoCount = 0;
            valleyCount = 0;
            today = 0;
            made = 0;
            ended = 0;
            moneyAtStart = 0;
            earned = 0;
            funded = 0;
            trainingCost = 0;
        }

        void copyFrom(World other) {
            echoCount = other.echoCount;
            valleyCount = other.valleyCount;
            today = other.today;
            made = other.made;
            ended = other.ended;
            moneyAtStart = other.moneyAtStart;
            earned = other.earned;
            funded = other.funded;
            trainingCost = other.trainingCost;
            for (int echo = 0; echo < echoCount; echo++) {
                echoes[echo].copyFrom(other.echoes[echo]);
            }
            for (int valley = 0; valley < valleyCount; valley++) {
                valleys[valley].copyFrom(other.valleys[valley]);
            }
        }

        int echoNamed(long name) {
            for (int echo = 0; echo < echoCount; echo++) {
                if (echoes[echo].name == name) {
                    return echo;
                }
            }
            return NONE;
        }

        int valleyNamed(long name) {
            for (int valley = 0; valley < valleyCount; valley++) {
                if (valleys[valley].name == name) {
                    return valley;
                }
            }
            return NONE;
        }

        int trueScore(int valley, int echo) {
            int distance = echoes[echo].delay - valleys[valley].width;
            return 10 * echoes[echo].repeats - 4 * (distance < 0 ? -distance : distance);
        }

        int scoreSeen(int valley, int echo) {
            return valleys[valley].hasTested(echo) ? trueScore(valley, echo) : UNTESTED_SCORE;
        }

        int reasonAt(int valley, int echo, int score) {
            if (valleys[valley].wage < echoes[echo].reserve) {
                return WAGE_TOO_LOW;
            }
            if (score < 1) {
                return SCORE_TOO_LOW;
            }
            return valleys[valley].hasLost(echo) ? DESERTED : ACCEPTABLE;
        }

        boolean isAcceptable(int valley, int echo) {
            return reasonAt(valley, echo, scoreSeen(valley, echo)) == ACCEPTABLE;
        }

        /** What an echo prefers among acceptable valleys; it is the same for all echoes. */
        boolean paysBetter(int valley, int other) {
            int wage = valleys[valley].wage;
            int otherWage = valleys[other].wage;
            return wage > otherWage || wage == otherWage && valley < other;
        }

        boolean prefersEcho(int valley, int echo, int other) {
            int score = scoreSeen(valley, echo);
            int otherScore = scoreSeen(valley, other);
            return score > otherScore || score == otherScore && echo < other;
        }

        /** How many acceptable valleys the echo prefers to this one. */
        int rankOfValley(int valley, int echo) {
            int rank = 0;
            for (int other = 0; other < valleyCount; other++) {
                if (isAcceptable(other, echo) && paysBetter(other, valley)) {
                    rank++;
                }
            }
            return rank;
        }

        /** How many echoes of acceptable pairs the valley prefers to this one. */
        int rankOfEcho(int valley, int echo) {
            int rank = 0;
            for (int other = 0; other < echoCount; other++) {
                if (isAcceptable(valley, other) && prefersEcho(valley, other, echo)) {
                    rank++;
                }
            }
            return rank;
        }

        boolean isBlocking(int valley, int echo) {
            return echoes[echo].employer != valley && isAcceptable(valley, echo)
                && wouldMove(valley, echo) && wouldTake(valley, echo);
        }

        boolean wouldMove(int valley, int echo) {
            int employer = echoes[echo].employer;
            return employer == NONE || !isAcceptable(employer, echo)
                || paysBetter(valley, employer);
        }

        boolean wouldTake(int valley, int echo) {
            Valley employer = valleys[valley];
            if (employer.hasFreePost()) {
                return true;
            }
            for (int i = 0; i < employer.staffed; i++) {
                if (prefersEcho(valley, echo, employer.staff[i])) {
                    return true;
                }
            }
            return false;
        }

        boolean canTest(int valley, int echo) {
            return !valleys[valley].hasTested(echo) && echoes[echo].employer == NONE;
        }

        void employ(int valley, int echo) {
            valleys[valley].hire(echo);
            echoes[echo].employer = valley;
            made++;
        }

        void endContract(int echo) {
            int employer = echoes[echo].employer;
            if (employer == NONE) {
                return;
            }
            valleys[employer].release(echo);
            echoes[echo].employer = NONE;
            echoes[echo].unpaid = 0;
            ended++;
        }

        void endSeason() {
            for (int echo = 0; echo < echoCount; echo++) {
                endContract(echo);
            }
            for (int valley = 0; valley < valleyCount; valley++) {
                valleys[valley].desertedBy = 0;
            }
        }

        void work() {
            for (int valley = 0; valley < valleyCount; valley++) {
                hearReplies(valleys[valley]);
                payStaff(valleys[valley]);
            }
        }

        private void hearReplies(Valley valley) {
            int replies = 0;
            for (int i = 0; i < valley.staffed; i++) {
                int echo = valley.staff[i];
                replies += echoes[echo].repeats;
                valley.served[echo]++;
            }
            valley.replies += replies;
            valley.purse += valley.width * replies;
            earned += valley.width * replies;
        }

        private void payStaff(Valley valley) {
            for (int i = 0; i < valley.staffed; i++) {
                Echo echo = echoes[valley.staff[i]];
                int pay = valley.wage * echo.repeats;
                if (valley.purse >= pay) {
                    valley.purse -= pay;
                    valley.paid += pay;
                    echo.savings += pay;
                    echo.unpaid = 0;
                } else {
                    echo.unpaid++;
                }
            }
        }

        /** Answers how many echoes deserted. */
        int desert(int fog) {
            int deserted = 0;
            for (int echo = 0; echo < echoCount; echo++) {
                int employer = echoes[echo].employer;
                if (employer != NONE && echoes[echo].leavesIn(fog)) {
                    endContract(echo);
                    valleys[employer].desertedBy |= 1 << echo;
                    echoes[echo].desertions++;
                    deserted++;
                }
            }
            return deserted;
        }

        void putMoney(int valley, int amount) {
            valleys[valley].purse += amount;
            funded += amount;
        }

        void teach(int echo) {
            int price = echoes[echo].lessonPrice();
            echoes[echo].savings -= price;
            trainingCost += price;
            echoes[echo].repeats++;
        }

        int moneyInPurses() {
            int money = 0;
            for (int valley = 0; valley < valleyCount; valley++) {
                money += valleys[valley].purse;
            }
            return money;
        }

        int moneySaved() {
            int money = 0;
            for (int echo = 0; echo < echoCount; echo++) {
                money += echoes[echo].savings;
            }
            return money;
        }

        int contracts() {
            int count = 0;
            for (int valley = 0; valley < valleyCount; valley++) {
                count += valleys[valley].staffed;
            }
            return count;
        }

        int valleysServedBy(int echo) {
            int count = 0;
            for (int valley = 0; valley < valleyCount; valley++) {
                for (int i = 0; i < valleys[valley].staffed; i++) {
                    if (valleys[valley].staff[i] == echo) {
                        count++;
                    }
                }
            }
            return count;
        }
    }

    /** The worlds before the most recent operations, in a ring. */
    private static final class History {
        private final World[] worlds = new World[MAX_UNDO];
        private int next;
        int count;

        History() {
            for (int i = 0; i < MAX_UNDO; i++) {
                worlds[i] = new World();
            }
        }

        void push(World world) {
            worlds[next].copyFrom(world);
            next = next + 1 < MAX_UNDO ? next + 1 : 0;
            if (count < MAX_UNDO) {
                count++;
            }
        }

        void pop(World world) {
            if (count < 1) {
                return;
            }
            next = next > 0 ? next - 1 : MAX_UNDO - 1;
            world.copyFrom(worlds[next]);
            count--;
        }
    }

    /** The deferred acceptance of a fair. */
    private static final class Matching {
        /** For each echo a bit for each acceptable valley to which it has not applied yet. */
        private final int[] open = new int[MAX_ECHOES];
        /** For each echo the valley that keeps its application. */
        private final int[] keeper = new int[MAX_ECHOES];
        /** For each valley how many more applications it can keep. */
        private final int[] room = new int[MAX_VALLEYS];
        private final int[] scores = new int[MAX_VALLEYS * MAX_ECHOES];
        /** Each echo enters once at the start and once for each valley that rejects it. */
        private final int[] queue = new int[MAX_ECHOES * (MAX_VALLEYS + 1)];
        private int queued;

        /** Answers how many contracts were made. */
        int hold(World world) {
            enrol(world);
            weigh(world);
            for (int head = 0; head < queued && head < queue.length; head++) {
                int echo = queue[head];
                int valley = favourite(world, echo);
                if (valley != NONE) {
                    open[echo] &= ~(1 << valley);
                    apply(world, valley, echo);
                }
            }
            return sign(world);
        }

        private void enrol(World world) {
            queued = 0;
            for (int valley = 0; valley < world.valleyCount; valley++) {
                room[valley] = world.valleys[valley].posts - world.valleys[valley].staffed;
            }
            for (int echo = 0; echo < world.echoCount; echo++) {
                open[echo] = 0;
                keeper[echo] = NONE;
                if (world.echoes[echo].employer == NONE) {
                    enqueue(echo);
                }
            }
        }

        private void weigh(World world) {
            for (int valley = 0; valley < world.valleyCount; valley++) {
                for (int echo = 0; echo < world.echoCount; echo++) {
                    int score = world.scoreSeen(valley, echo);
                    scores[valley * MAX_ECHOES + echo] = score;
                    if (world.reasonAt(valley, echo, score) == ACCEPTABLE) {
                        open[echo] |= 1 << valley;
                    }
                }
            }
        }

        private void enqueue(int echo) {
            if (queued < queue.length) {
                queue[queued] = echo;
                queued++;
            }
        }

        private int favourite(World world, int echo) {
            int best = NONE;
            for (int valley = 0; valley < world.valleyCount; valley++) {
                boolean isOpen = (open[echo] >> valley & 1) == 1;
                if (isOpen && (best == NONE || world.paysBetter(valley, best))) {
                    best = valley;
                }
            }
            return best;
        }

        private void apply(World world, int valley, int echo) {
            if (room[valley] > 0) {
                room[valley]--;
                keeper[echo] = valley;
                return;
            }
            int least = leastKept(world, valley);
            if (least == NONE || !prefers(valley, echo, least)) {
                enqueue(echo);
                return;
            }
            keeper[least] = NONE;
            keeper[echo] = valley;
            enqueue(least);
        }

        private int leastKept(World world, int valley) {
            int least = NONE;
            for (int echo = 0; echo < world.echoCount; echo++) {
                if (keeper[echo] == valley && (least == NONE || prefers(valley, least, echo))) {
                    least = echo;
                }
            }
            return least;
        }

        private boolean prefers(int valley, int echo, int other) {
            int score = scores[valley * MAX_ECHOES + echo];
            int otherScore = scores[valley * MAX_ECHOES + other];
            return score > otherScore || score == otherScore && echo < other;
        }

        private int sign(World world) {
            int signed = 0;
            for (int valley = 0; valley < world.valleyCount; valley++) {
                for (int echo = 0; echo < world.echoCount; echo++) {
                    if (keeper[echo] == valley) {
                        world.employ(valley, echo);
                        signed++;
                    }
                }
            }
            return signed;
        }
    }

    /** Takes the tokens from a text, one by one, and keeps the error. */
    private static final class Tokens {
        static final int END = 0;
        static final int WORD = 1;
        static final int NUMBER = 2;
        static final int SEMICOLON = 3;
        static final int SPACE = 4;
        static final int INVALID = 5;

        private final Buffer text;
        private int place;
        int kind;
        private int start;
        private int size;
        int value;
        int errorCode;
        int errorPosition = NONE;

        Tokens(Buffer text) {
            this.text = text;
        }

        void begin() {
            place = 0;
            errorCode = 0;
            errorPosition = NONE;
        }

        boolean fail(int code) {
            errorCode = code;
            errorPosition = start;
            return false;
        }

        private static int kindOf(int sign) {
            if (sign >= 'a' && sign <= 'z') {
                return WORD;
            }
            if (sign >= '0' && sign <= '9') {
                return NUMBER;
            }
            if (sign == ';') {
                return SEMICOLON;
            }
            if (sign == ' ') {
                return SPACE;
            }
            return sign == NONE ? END : INVALID;
        }

        void next() {
            while (place < text.length && text.byteAt(place) == ' ') {
                place++;
            }
            start = place;
            kind = kindOf(text.byteAt(place));
            boolean growing = kind != END;
            value = 0;
            while (place < text.length && growing) {
                // What a word adds up to is never asked for.
                value = value * 10 + text.byteAt(place) - '0';
                place++;
                growing = (kind == WORD || kind == NUMBER) && kindOf(text.byteAt(place)) == kind;
            }
            size = place - start;
        }

        boolean wordIs(String word) {
            if (kind != WORD || size != word.length()) {
                return false;
            }
            for (int i = 0; i < word.length(); i++) {
                if (text.byteAt(start + i) != word.charAt(i)) {
                    return false;
                }
            }
            return true;
        }

        long name() {
            return text.nameAt(start, size);
        }

        boolean takeWord(String word) {
            next();
            return wordIs(word) || fail(SYNTAX_ERROR);
        }

        boolean takeSemicolon() {
            next();
            return kind == SEMICOLON || fail(SYNTAX_ERROR);
        }

        private boolean isName() {
            return kind == WORD && size <= MAX_NAME_LETTERS;
        }

        boolean takeName() {
            next();
            return isName() || fail(SYNTAX_ERROR);
        }

        boolean takeNumber(int least, int most) {
            next();
            return checkNumber(least, most);
        }

        boolean checkNumber(int least, int most) {
            if (kind != NUMBER || size > MAX_DIGITS) {
                return fail(SYNTAX_ERROR);
            }
            return value >= least && value <= most || fail(RANGE_ERROR);
        }

        /** Takes the name of an echo of this world; its number is the value. */
        boolean takeEcho(World world) {
            next();
            if (!isName()) {
                return fail(SYNTAX_ERROR);
            }
            value = world.echoNamed(text.nameAt(start, size));
            return value != NONE || fail(NAME_ERROR);
        }

        /** Takes the name of a valley of this world; its number is the value. */
        boolean takeValley(World world) {
            next();
            if (!isName()) {
                return fail(SYNTAX_ERROR);
            }
            value = world.valleyNamed(text.nameAt(start, size));
            return value != NONE || fail(NAME_ERROR);
        }
    }

    /** The parser of configurations. */
    private static final class Configuration {
        private final Tokens tokens;
        private final World world;
        private final Season season;

        Configuration(Tokens tokens, World world, Season season) {
            this.tokens = tokens;
            this.world = world;
            this.season = season;
        }

        boolean parse() {
            tokens.begin();
            world.clear();
            if (!takeSeason() || !takeFog()) {
                return false;
            }
            // Each statement takes at least one byte, so no text holds more of them than this.
            for (int i = 0; i <= MAX_INPUT; i++) {
                tokens.next();
                if (tokens.kind == Tokens.END) {
                    return isComplete();
                }
                if (!takeStatement()) {
                    return false;
                }
            }
            return tokens.fail(LIMIT_ERROR);
        }

        private boolean isComplete() {
            return world.echoCount > 0 && world.valleyCount > 0 || tokens.fail(SYNTAX_ERROR);
        }

        private boolean takeSeason() {
            if (!tokens.takeWord("fair") || !tokens.takeNumber(1, MAX_SEASON)) {
                return false;
            }
            season.length = tokens.value;
            return tokens.takeSemicolon();
        }

        private boolean takeFog() {
            season.levels = 0;
            if (!tokens.takeWord("fog")) {
                return false;
            }
            for (int i = 0; i <= MAX_FOG_LEVELS; i++) {
                tokens.next();
                if (i > 0 && tokens.kind == Tokens.SEMICOLON) {
                    return true;
                }
                if (!tokens.checkNumber(0, 9)) {
                    return false;
                }
                season.addLevel(tokens.value);
            }
            return tokens.fail(LIMIT_ERROR);
        }

        private boolean takeStatement() {
            if (tokens.wordIs("echo")) {
                return takeNewEcho();
            }
            if (tokens.wordIs("valley")) {
                return takeNewValley();
            }
            if (tokens.wordIs("tested")) {
                return takeTest();
            }
            return tokens.fail(SYNTAX_ERROR);
        }

        private boolean takeNewEcho() {
            if (world.echoCount >= MAX_ECHOES) {
                return tokens.fail(LIMIT_ERROR);
            }
            if (!tokens.takeName()) {
                return false;
            }
            if (world.echoNamed(tokens.name()) != NONE) {
                return tokens.fail(NAME_ERROR);
            }
            Echo echo = world.echoes[world.echoCount];
            echo.start(tokens.name());
            if (!tokens.takeNumber(1, 9)) {
                return false;
            }
            echo.delay = tokens.value;
            if (!tokens.takeNumber(1, MAX_REPEATS)) {
                return false;
            }
            echo.repeats = tokens.value;
            if (!tokens.takeNumber(1, MAX_WAGE)) {
                return false;
            }
            echo.reserve = tokens.value;
            if (!tokens.takeNumber(0, 9)) {
                return false;
            }
            echo.resistance = tokens.value;
            world.echoCount++;
            return tokens.takeSemicolon();
        }

        private boolean takeNewValley() {
            if (world.valleyCount >= MAX_VALLEYS) {
                return tokens.fail(LIMIT_ERROR);
            }
            if (!tokens.takeName()) {
                return false;
            }
            if (world.valleyNamed(tokens.name()) != NONE) {
                return tokens.fail(NAME_ERROR);
            }
            Valley valley = world.valleys[world.valleyCount];
            valley.start(tokens.name());
            if (!tokens.takeNumber(1, 9)) {
                return false;
            }
            valley.width = tokens.value;
            if (!tokens.takeNumber(1, MAX_POSTS)) {
                return false;
            }
            valley.posts = tokens.value;
            if (!tokens.takeNumber(1, MAX_WAGE)) {
                return false;
            }
            valley.wage = tokens.value;
            if (!tokens.takeNumber(0, MAX_PURSE)) {
                return false;
            }
            valley.purse = tokens.value;
            world.moneyAtStart += valley.purse;
            world.valleyCount++;
            return tokens.takeSemicolon();
        }

        private boolean takeTest() {
            if (!tokens.takeValley(world)) {
                return false;
            }
            Valley valley = world.valleys[tokens.value];
            if (!tokens.takeEcho(world)) {
                return false;
            }
            valley.noteTest(tokens.value);
            return tokens.takeSemicolon();
        }
    }

    /** The parser of command texts, and the commands of the last one. */
    private static final class Commands {
        static final int PASS = 0;
        static final int FAIR = 1;
        static final int TEST = 2;
        static final int DISMISS = 3;
        static final int WAGE = 4;
        static final int FUND = 5;
        static final int TRAIN = 6;

        private final Tokens tokens;
        final int[] verb = new int[MAX_COMMANDS];
        final int[] first = new int[MAX_COMMANDS];
        final int[] second = new int[MAX_COMMANDS];
        int count;

        Commands(Tokens tokens) {
            this.tokens = tokens;
        }

        boolean parse(World world) {
            tokens.begin();
            count = 0;
            for (int i = 0; i <= MAX_COMMANDS; i++) {
                tokens.next();
                if (tokens.kind == Tokens.END) {
                    return true;
                }
                int name = verbRead();
                if (name == NONE) {
                    return tokens.fail(SYNTAX_ERROR);
                }
                if (count >= MAX_COMMANDS) {
                    return tokens.fail(LIMIT_ERROR);
                }
                verb[count] = name;
                if (!takeParameters(name, world) || !tokens.takeSemicolon()) {
                    return false;
                }
                count++;
            }
            return tokens.fail(LIMIT_ERROR);
        }

        private int verbRead() {
            if (tokens.wordIs("pass")) {
                return PASS;
            }
            if (tokens.wordIs("fair")) {
                return FAIR;
            }
            if (tokens.wordIs("test")) {
                return TEST;
            }
            if (tokens.wordIs("dismiss")) {
                return DISMISS;
            }
            if (tokens.wordIs("wage")) {
                return WAGE;
            }
            if (tokens.wordIs("fund")) {
                return FUND;
            }
            return tokens.wordIs("train") ? TRAIN : NONE;
        }

        private boolean takeParameters(int name, World world) {
            first[count] = 0;
            second[count] = 0;
            boolean valid;
            switch (name) {
                case FAIR:
                    return true;
                case PASS:
                    valid = tokens.takeNumber(1, MAX_PASSED_DAYS);
                    first[count] = tokens.value;
                    return valid;
                case DISMISS:
                case TRAIN:
                    valid = tokens.takeEcho(world);
                    first[count] = tokens.value;
                    return valid;
                default:
                    return takeValleyAndMore(name, world);
            }
        }

        private boolean takeValleyAndMore(int name, World world) {
            if (!tokens.takeValley(world)) {
                return false;
            }
            first[count] = tokens.value;
            boolean valid;
            if (name == TEST) {
                valid = tokens.takeEcho(world);
            } else {
                valid = tokens.takeNumber(1, name == WAGE ? MAX_WAGE : MAX_FUND);
            }
            second[count] = tokens.value;
            return valid;
        }
    }
}
