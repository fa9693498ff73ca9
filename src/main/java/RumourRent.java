/** A town of eight houses in which rumours lodge and pay rent. README.md tells how to use it. */
public final class RumourRent {
    public static final int NONE = -1;

    private static final int HOUSES = 8;
    private static final int ALL_HOUSES = 255;
    private static final int MOST_ROADS = 12;
    private static final int MOST_RUMOURS = 4;
    private static final int MOST_ROOMS = 4;
    private static final int FIRST_ROOMS = 2;
    private static final int MOST_WRITTEN = 30;
    private static final int MOST_STEPS = 30;
    private static final int MOST_TEXTS = 4;
    private static final int MOST_BYTES = 300;
    private static final int BYTES_A_FEED = 20;
    private static final int MOST_CLAUSES = 24;
    private static final int MOST_OPEN = 8;
    private static final int MOST_NOTES = 8;
    private static final int MOST_GUESTS = 7;
    private static final int BIGGEST_GUEST = 4;
    private static final int MOST_DAYS = 60;
    private static final int MOST_TURNS = 40;
    private static final int LARGEST = 9999;
    private static final int MOST_TOLD = 999;
    private static final int LAST_HEARD = 99;
    private static final int MOST_ERROR = 9;
    private static final int HIGHEST_LAW = 99;
    private static final int FARTHEST_VALUE = 1000000;
    private static final int FIRST_X = 379;
    private static final int NO_SUCH = -2;
    private static final int NO_VALUE = -100;

    // The words of the texts, eight letters each (a word's number is its place),
    // clauses first and names in one run, so that both can be told by their numbers.
    private static final String WORDS = "believesrent    road    rumour  rooms   tell    hush    day     purse   house   number  truth   near    free    all     income  to      at      of      mean    kept    if      then    else    end     or      and     not     ";
    private static final int WORD_LENGTH = 8;
    private static final int WORD_COUNT = 28;
    private static final int W_BELIEVES = 0;
    private static final int W_RENT = 1;
    private static final int W_ROAD = 2;
    private static final int W_RUMOUR = 3;
    private static final int W_ROOMS = 4;
    private static final int W_TELL = 5;
    private static final int W_HUSH = 6;
    private static final int W_DAY = 7;
    private static final int W_PURSE = 8;
    private static final int W_HOUSE = 9;
    private static final int W_NUMBER = 10;
    private static final int W_TRUTH = 11;
    private static final int W_NEAR = 12;
    private static final int W_FREE = 13;
    private static final int W_ALL = 14;
    private static final int W_INCOME = 15;
    private static final int W_TO = 16;
    private static final int W_AT = 17;
    private static final int W_OF = 18;
    private static final int W_MEAN = 19;
    private static final int W_KEPT = 20;
    private static final int W_IF = 21;
    private static final int W_THEN = 22;
    private static final int W_ELSE = 23;
    private static final int W_END = 24;
    private static final int W_OR = 25;
    private static final int W_AND = 26;
    private static final int W_NOT = 27;

    // The signs, in the order of their kinds behind the words; <= and >= come behind them.
    private static final String SIGNS = "<>=#+-*/();";
    private static final int S_LESS = 28;
    private static final int S_MORE = 29;
    private static final int S_SAME = 30;
    private static final int S_UNLIKE = 31;
    private static final int S_PLUS = 32;
    private static final int S_MINUS = 33;
    private static final int S_TIMES = 34;
    private static final int S_OVER = 35;
    private static final int S_OPEN = 36;
    private static final int S_SHUT = 37;
    private static final int S_STOP = 38;
    private static final int S_AT_MOST = 39;
    private static final int S_AT_LEAST = 40;
    private static final int NUMBER = 41;
    private static final int FINISH = 42;
    private static final int NO_TOKEN = 43;

    // What a law is made of bears the numbers of its tokens, and these besides.
    private static final int NEGATE = 44;
    private static final int SKIP = 45;
    private static final int SKIP_UNLESS = 46;

    private static final int CANNOT_STAND = 1;
    private static final int WRONG_NUMBER = 2;
    private static final int TOO_DEEP = 3;
    private static final int SECOND_TIME = 4;
    private static final int WRONG_NAME = 5;
    private static final int TOO_MANY_CLAUSES = 6;

    // By the number of a clause's first word: what its numbers may be, and the word between them.
    private static final int[] LOWEST_FIRST = {0, 0, 0, 0, 0, 0, 0, 1};
    private static final int[] HIGHEST_FIRST = {0, 0, 7, 1, MOST_ROOMS, 7, 7, MOST_DAYS};
    private static final int[] WORD_BETWEEN = {0, 0, W_TO, W_PURSE, W_AT, W_OF, W_OF, 0};
    private static final int[] HIGHEST_SECOND = {0, 0, 7, MOST_TOLD, 7, 3, 3, 0};

    private final Town town;
    private final Town townKept;
    private final Town townAhead;
    private final Steps steps;
    private final Steps stepsKept;
    private final Notes notes;
    private final Notes notesKept;
    // One shelf serves the image too: texts only come behind those that it has,
    // and going back leaves no more than these, so those of the image are never written over.
    private final Text[] texts;
    private final Reader reader;
    private final Judge judge;
    private final Custom custom;
    private final Streets streets;
    private final Inquiry inquiry;
    private final Lodging lodging;

    public RumourRent() {
        town = new Town();
        townKept = new Town();
        townAhead = new Town();
        steps = new Steps();
        stepsKept = new Steps();
        notes = new Notes();
        notesKept = new Notes();
        texts = new Text[MOST_TEXTS];
        for (int i = 0; i < MOST_TEXTS; i++) {
            texts[i] = new Text();
        }
        reader = new Reader();
        judge = new Judge();
        custom = new Custom(judge);
        streets = new Streets(town);
        inquiry = new Inquiry(streets, notes);
        lodging = new Lodging(town, notes);
    }

    public int road(int a, int b) {
        if (!isHouse(a) || !isHouse(b) || a == b) {
            return NONE;
        }
        if (town.roadCount >= MOST_ROADS || (town.beside[a] >> b & 1) == 1) {
            return NONE;
        }
        town.beside[a] |= 1 << b;
        town.beside[b] |= 1 << a;
        town.roadCount++;
        return town.roadCount - 1;
    }

    public int rumour(int truth, int purse) {
        if (!isWithin(truth, 0, 1) || !isWithin(purse, 0, MOST_TOLD) || town.rumourCount >= MOST_RUMOURS) {
            return NONE;
        }
        int number = town.rumourCount;
        town.truth[number] = truth;
        town.purse[number] = purse;
        town.purseTold[number] = purse;
        town.keepers[number] = 0;
        town.rumourCount++;
        return number;
    }

    public boolean rooms(int house, int rooms) {
        if (!isHouse(house) || !isWithin(rooms, 0, MOST_ROOMS)) {
            return false;
        }
        town.rooms[house] = rooms;
        return true;
    }

    public int feed(int a, int b, int c, int d, int e) {
        if (reader.length + BYTES_A_FEED > MOST_BYTES) {
            return NONE;
        }
        reader.take(a);
        reader.take(b);
        reader.take(c);
        reader.take(d);
        reader.take(e);
        return reader.length;
    }

    public int end(int n) {
        if (!isWithin(n, 0, reader.length)) {
            return NONE;
        }
        reader.length = n;
        return n;
    }

    public int text() {
        int number = town.textCount;
        if (number >= MOST_TEXTS || !reader.readInto(texts[number])) {
            return NONE;
        }
        town.textCount++;
        return number;
    }

    public int fault(int what) {
        if (what == 0) {
            return reader.fault;
        }
        return what == 1 ? reader.place : NONE;
    }

    public boolean by(int text) {
        if (text != NONE && !town.isText(text)) {
            return false;
        }
        town.ruling = text;
        return true;
    }

    public boolean tell(int house, int rumour) {
        if (!isHouse(house) || !town.isRumour(rumour) || !custom.canHear(town, ruling(), house, rumour)) {
            return false;
        }
        steps.save(town);
        town.keep(house, rumour);
        return true;
    }

    public boolean hush(int house, int rumour) {
        if (!isHouse(house) || !town.isRumour(rumour) || !town.keeps(house, rumour)) {
            return false;
        }
        steps.save(town);
        town.forget(house, rumour);
        return true;
    }

    public boolean gift(int rumour, int sum) {
        if (!town.isRumour(rumour) || !isWithin(sum, 1, MOST_TOLD) || town.purse[rumour] + sum > LARGEST) {
            return false;
        }
        steps.save(town);
        town.purse[rumour] += sum;
        return true;
    }

    public int day(int n) {
        if (!isWithin(n, 1, MOST_DAYS) || town.day + n > LARGEST) {
            return NONE;
        }
        int paid = 0;
        for (int i = 0; i < n; i++) {
            steps.save(town);
            custom.passDay(town, ruling());
            paid += town.paid;
        }
        return paid;
    }

    public int played(int text) {
        if (!town.isText(text)) {
            return NO_SUCH;
        }
        Text script = texts[text];
        for (int i = 0; i < script.clauseCount; i++) {
            int clause = script.clauses[i];
            boolean isDone = Text.wordOf(clause) == W_DAY ? passDays(Text.firstOf(clause)) : perform(clause);
            if (!isDone) {
                return i;
            }
        }
        return NONE;
    }

    private boolean perform(int clause) {
        int first = Text.firstOf(clause);
        int second = Text.secondOf(clause);
        switch (Text.wordOf(clause)) {
            case W_ROAD:
                return road(first, second) != NONE;
            case W_RUMOUR:
                return rumour(first, second) != NONE;
            case W_ROOMS:
                return rooms(second, first);
            case W_TELL:
                return tell(first, second);
            case W_HUSH:
                return hush(first, second);
            default:
                return true;
        }
    }

    private boolean passDays(int n) {
        for (int i = 0; i < n; i++) {
            if (town.day >= LARGEST) {
                return false;
            }
            steps.save(town);
            custom.passDay(town, ruling());
        }
        return true;
    }

    public int years(int seed, int n) {
        if (!isWithin(seed, 0, LARGEST) || !isWithin(n, 1, MOST_TURNS)) {
            return NONE;
        }
        steps.save(town);
        town.x = seed * 2 + FIRST_X;
        for (int i = 0; i < n; i++) {
            custom.turn(town, ruling());
        }
        return town.day;
    }

    public int undo() {
        if (steps.count == 0) {
            return NONE;
        }
        steps.takeBack(town);
        return steps.count;
    }

    public int of(int house, int what) {
        if (!isHouse(house)) {
            return NONE;
        }
        switch (what) {
            case 0:
                return town.rooms[house];
            case 1:
                return town.rumoursAt(house);
            case 2:
                return town.income[house];
            case 3:
                return town.beside[house];
            default:
                return NONE;
        }
    }

    public int ofRumour(int rumour, int what) {
        if (!town.isRumour(rumour)) {
            return NONE;
        }
        switch (what) {
            case 0:
                return town.truth[rumour];
            case 1:
                return town.purse[rumour];
            case 2:
                return town.keepers[rumour];
            default:
                return NONE;
        }
    }

    public int believes(int house, int rumour) {
        if (!isHouse(house) || !town.isRumour(rumour)) {
            return NO_VALUE;
        }
        return judge.belief(ruling(), town, house, rumour);
    }

    public int rent(int house, int rumour) {
        if (!isHouse(house) || !town.isRumour(rumour)) {
            return NO_VALUE;
        }
        return judge.charge(ruling(), town, house, rumour);
    }

    public int is(int what) {
        switch (what) {
            case 0:
                return town.day;
            case 1:
                return town.x;
            case 2:
                return town.roadCount;
            case 3:
                return town.paid;
            default:
                return NO_SUCH;
        }
    }

    public int book(int i, int what) {
        if (i == NONE) {
            return town.written;
        }
        if (!isWithin(i, 0, town.written - 1)) {
            return NO_SUCH;
        }
        switch (what) {
            case 0:
                return town.dayWritten(i);
            case 1:
                return town.houseWritten(i);
            case 2:
                return town.rumourWritten(i);
            default:
                return NO_SUCH;
        }
    }

    public int foretold(int n, int what, int which) {
        boolean asksHouse = what == 0 && isHouse(which);
        boolean asksRumour = what == 1 && town.isRumour(which);
        if (!isWithin(n, 1, MOST_DAYS) || !asksHouse && !asksRumour) {
            return NONE;
        }
        townAhead.become(town);
        for (int i = 0; i < n && townAhead.day < LARGEST; i++) {
            custom.passDay(townAhead, ruling());
        }
        return asksHouse ? townAhead.rumoursAt(which) : townAhead.purse[which];
    }

    public int far(int a, int b) {
        if (!isHouse(a) || !isHouse(b)) {
            return NONE;
        }
        streets.measure();
        return streets.distance(a, b);
    }

    public int path(int a, int b, int i) {
        if (!isHouse(a) || !isHouse(b)) {
            return NO_SUCH;
        }
        streets.measure();
        return isWithin(i, 0, streets.distance(a, b)) ? streets.onTheWay(a, b, i) : NO_SUCH;
    }

    public int out(int house) {
        if (!isHouse(house)) {
            return NONE;
        }
        streets.measure();
        return streets.farthestFrom(house);
    }

    public int centre(boolean far) {
        if (!streets.isWhole()) {
            return NONE;
        }
        streets.measure();
        int best = 0;
        for (int house = 1; house < HOUSES; house++) {
            if (streets.farthestFrom(house) < streets.farthestFrom(best)) {
                best = house;
            }
        }
        return far ? streets.farthestFrom(best) : best;
    }

    public int wide() {
        if (!streets.isWhole()) {
            return NONE;
        }
        streets.measure();
        int widest = 0;
        for (int house = 0; house < HOUSES; house++) {
            widest = Math.max(widest, streets.farthestFrom(house));
        }
        return widest;
    }

    public int parts() {
        int found = 0;
        int seen = 0;
        for (int house = 0; house < HOUSES; house++) {
            if ((seen >> house & 1) == 0) {
                found++;
                seen |= streets.flood(house, ALL_HOUSES);
            }
        }
        return found;
    }

    public int threes() {
        return streets.countThrees();
    }

    public int trees() {
        return streets.countTrees();
    }

    public long colours(int n) {
        return isWithin(n, 1, 4) ? streets.countColours(n) : NONE;
    }

    public int colour(int n, int house) {
        if (!isWithin(n, 1, 4) || !isHouse(house) || !streets.findColours(n)) {
            return NO_SUCH;
        }
        return streets.tints[house];
    }

    public int round(int i) {
        if (!isHouse(i) || streets.countRounds() == 0) {
            return NO_SUCH;
        }
        return streets.firstRound[i];
    }

    public int rounds() {
        return streets.countRounds();
    }

    public int block(int a, int b, boolean many) {
        if (!isHouse(a) || !isHouse(b) || a == b || (town.beside[a] >> b & 1) == 1) {
            return NONE;
        }
        int set = streets.setBetween(a, b);
        return many ? Integer.bitCount(set) : set;
    }

    public int agents(int n, boolean many) {
        if (!isWithin(n, 0, HOUSES - 1)) {
            return NONE;
        }
        streets.measure();
        int set = streets.setWithin(n);
        return many ? Integer.bitCount(set) : set;
    }

    public int reach(int a, int b, boolean low) {
        if (!isHouse(a) || !isHouse(b)) {
            return NONE;
        }
        int upper = streets.waysOpen(a, b);
        int lower = 1 << town.roadCount;
        for (int i = 0; i < MOST_ROADS && lower > 1 && upper % 2 == 0; i++) {
            upper /= 2;
            lower /= 2;
        }
        return low ? lower : upper;
    }

    public int heard(int house, int day) {
        if (house == NONE) {
            notes.heardCount = 0;
            return 0;
        }
        if (!isHouse(house) || !isWithin(day, 0, LAST_HEARD) || notes.heardCount >= MOST_NOTES) {
            return NO_SUCH;
        }
        notes.heardHouse[notes.heardCount] = house;
        notes.heardDay[notes.heardCount] = day;
        notes.heardCount++;
        return notes.heardCount;
    }

    public int began(int err) {
        if (!isWithin(err, 0, MOST_ERROR)) {
            return NONE;
        }
        inquiry.weigh();
        return inquiry.suspects(err);
    }

    public int since(int house) {
        if (!isHouse(house) || notes.heardCount == 0) {
            return NO_VALUE;
        }
        inquiry.weigh();
        return inquiry.start[house];
    }

    public int ask(int err) {
        if (!isWithin(err, 0, MOST_ERROR) || notes.heardCount == 0) {
            return NONE;
        }
        inquiry.weigh();
        return inquiry.bestWitness(inquiry.suspects(err));
    }

    public int pack(int size) {
        if (size == NONE) {
            notes.guestCount = 0;
            return 0;
        }
        if (!isWithin(size, 1, BIGGEST_GUEST) || notes.guestCount >= MOST_GUESTS) {
            return NO_SUCH;
        }
        notes.guests[notes.guestCount] = size;
        notes.guestCount++;
        return notes.guestCount;
    }

    public int packed(int i) {
        if (!isWithin(i, NONE, notes.guestCount - 1)) {
            return NO_SUCH;
        }
        int fewest = lodging.fewestHouses();
        if (fewest > HOUSES) {
            return NO_SUCH;
        }
        if (i == NONE) {
            return fewest;
        }
        lodging.placeGuests(fewest);
        return lodging.place[i];
    }

    public int said(int house, int rumour, int rent) {
        if (house == NONE) {
            notes.saidCount = 0;
            return 0;
        }
        if (!isHouse(house) || !town.isRumour(rumour) || !isWithin(rent, 0, HIGHEST_LAW)
            || notes.saidCount >= MOST_NOTES) {
            return NO_SUCH;
        }
        notes.saidHouse[notes.saidCount] = house;
        notes.saidRumour[notes.saidCount] = rumour;
        notes.saidRent[notes.saidCount] = rent;
        notes.saidCount++;
        return notes.saidCount;
    }

    public int whose() {
        int found = 0;
        for (int i = 0; i < town.textCount; i++) {
            if (agreesWithSaid(texts[i])) {
                found |= 1 << i;
            }
        }
        return found;
    }

    private boolean agreesWithSaid(Text law) {
        for (int i = 0; i < notes.saidCount; i++) {
            if (judge.charge(law, town, notes.saidHouse[i], notes.saidRumour[i]) != notes.saidRent[i]) {
                return false;
            }
        }
        return true;
    }

    public int dearest() {
        int best = NONE;
        int most = 0;
        for (int rumour = 0; rumour < town.rumourCount; rumour++) {
            int sum = chargeOfAll(rumour);
            if (sum > most) {
                most = sum;
                best = rumour;
            }
        }
        return best;
    }

    private int chargeOfAll(int rumour) {
        int sum = 0;
        for (int house = 0; house < HOUSES; house++) {
            if (town.keeps(house, rumour)) {
                sum += judge.charge(ruling(), town, house, rumour);
            }
        }
        return sum;
    }

    public int richest() {
        int best = NONE;
        int most = 0;
        for (int house = 0; house < HOUSES; house++) {
            if (town.income[house] > most) {
                most = town.income[house];
                best = house;
            }
        }
        return best;
    }

    public int ledger(int rumour) {
        if (rumour == NONE) {
            return town.written;
        }
        if (!town.isRumour(rumour)) {
            return NO_SUCH;
        }
        int times = 0;
        for (int i = 0; i < town.written; i++) {
            if (town.rumourWritten(i) == rumour) {
                times++;
            }
        }
        return times;
    }

    public int image() {
        townKept.become(town);
        stepsKept.become(steps);
        notesKept.become(notes);
        return town.day;
    }

    public int back() {
        town.become(townKept);
        steps.become(stepsKept);
        notes.become(notesKept);
        return town.day;
    }

    public int about(int what) {
        switch (what) {
            case 0:
                return town.roadCount;
            case 1:
                return town.rumourCount;
            case 2:
                return town.textCount;
            case 3:
                return town.ruling;
            case 4:
                return steps.count;
            case 5:
                return notes.heardCount;
            case 6:
                return notes.guestCount;
            case 7:
                return notes.saidCount;
            case 8:
                return reader.length;
            default:
                return NO_SUCH;
        }
    }

    private Text ruling() {
        return town.isText(town.ruling) ? texts[town.ruling] : null;
    }

    private static boolean isHouse(int house) {
        return house >= 0 && house < HOUSES;
    }

    private static int lowestIn(int bits) {
        return Integer.bitCount(bits - 1 & ~bits);
    }

    private static boolean isWithin(int value, int lowest, int highest) {
        return value >= lowest && value <= highest;
    }

    /** What changes in the town, and what is told of it. */
    private static final class Town {
        final int[] rooms = new int[HOUSES];
        final int[] income = new int[HOUSES];
        final int[] beside = new int[HOUSES];
        final int[] truth = new int[MOST_RUMOURS];
        final int[] purse = new int[MOST_RUMOURS];
        final int[] purseTold = new int[MOST_RUMOURS];
        final int[] keepers = new int[MOST_RUMOURS];
        // An entry is one number, so that a step can save the whole book cheaply.
        final int[] pages = new int[MOST_WRITTEN];
        int written;
        int roadCount;
        int rumourCount;
        int day;
        int x;
        int paid;
        int textCount;
        int ruling;

        Town() {
            for (int house = 0; house < HOUSES; house++) {
                rooms[house] = FIRST_ROOMS;
            }
            x = FIRST_X;
            ruling = NONE;
        }

        void become(Town other) {
            System.arraycopy(other.rooms, 0, rooms, 0, HOUSES);
            System.arraycopy(other.income, 0, income, 0, HOUSES);
            System.arraycopy(other.beside, 0, beside, 0, HOUSES);
            System.arraycopy(other.truth, 0, truth, 0, MOST_RUMOURS);
            System.arraycopy(other.purse, 0, purse, 0, MOST_RUMOURS);
            System.arraycopy(other.purseTold, 0, purseTold, 0, MOST_RUMOURS);
            System.arraycopy(other.keepers, 0, keepers, 0, MOST_RUMOURS);
            System.arraycopy(other.pages, 0, pages, 0, MOST_WRITTEN);
            written = other.written;
            roadCount = other.roadCount;
            rumourCount = other.rumourCount;
            day = other.day;
            x = other.x;
            paid = other.paid;
            textCount = other.textCount;
            ruling = other.ruling;
        }

        boolean isRumour(int rumour) {
            return rumour >= 0 && rumour < rumourCount;
        }

        boolean isText(int text) {
            return text >= 0 && text < textCount;
        }

        boolean keeps(int house, int rumour) {
            return (keepers[rumour] >> house & 1) == 1;
        }

        int rumoursAt(int house) {
            int bits = 0;
            for (int rumour = 0; rumour < rumourCount; rumour++) {
                bits |= (keepers[rumour] >> house & 1) << rumour;
            }
            return bits;
        }

        void keep(int house, int rumour) {
            keepers[rumour] |= 1 << house;
            if (written >= MOST_WRITTEN) {
                System.arraycopy(pages, 1, pages, 0, MOST_WRITTEN - 1);
                written = MOST_WRITTEN - 1;
            }
            pages[written] = (day * HOUSES + house) * MOST_RUMOURS + rumour;
            written++;
        }

        void forget(int house, int rumour) {
            keepers[rumour] &= ~(1 << house);
        }

        int dayWritten(int i) {
            return pages[i] / (HOUSES * MOST_RUMOURS);
        }

        int houseWritten(int i) {
            return pages[i] / MOST_RUMOURS % HOUSES;
        }

        int rumourWritten(int i) {
            return pages[i] % MOST_RUMOURS;
        }

        int drawX() {
            int drawn = x;
            x = (x * 631 + 497) % 30881;
            return drawn;
        }
    }

    /** The latest steps: of each, in a row of numbers, what it may change, as that was ahead of it. */
    private static final class Steps {
        private static final int AT_PURSES = HOUSES;
        private static final int AT_KEEPERS = AT_PURSES + MOST_RUMOURS;
        private static final int AT_RUMOUR_COUNT = AT_KEEPERS + 1;
        private static final int AT_PAID = AT_RUMOUR_COUNT + 1;
        private static final int AT_DAY = AT_PAID + 1;
        private static final int AT_X = AT_DAY + 1;
        private static final int AT_WRITTEN = AT_X + 1;
        private static final int AT_PAGES = AT_WRITTEN + 1;
        private static final int WIDTH = AT_PAGES + MOST_WRITTEN;

        final int[] rows = new int[MOST_STEPS * WIDTH];
        int first;
        int count;

        void become(Steps other) {
            System.arraycopy(other.rows, 0, rows, 0, rows.length);
            first = other.first;
            count = other.count;
        }

        void save(Town town) {
            if (count >= MOST_STEPS) {
                first = (first + 1) % MOST_STEPS;
                count = MOST_STEPS - 1;
            }
            int row = (first + count) % MOST_STEPS * WIDTH;
            count++;
            System.arraycopy(town.income, 0, rows, row, HOUSES);
            System.arraycopy(town.purse, 0, rows, row + AT_PURSES, MOST_RUMOURS);
            int packed = 0;
            for (int rumour = 0; rumour < town.rumourCount; rumour++) {
                packed |= town.keepers[rumour] << rumour * HOUSES;
            }
            rows[row + AT_KEEPERS] = packed;
            rows[row + AT_RUMOUR_COUNT] = town.rumourCount;
            rows[row + AT_PAID] = town.paid;
            rows[row + AT_DAY] = town.day;
            rows[row + AT_X] = town.x;
            rows[row + AT_WRITTEN] = town.written;
            System.arraycopy(town.pages, 0, rows, row + AT_PAGES, MOST_WRITTEN);
        }

        void takeBack(Town town) {
            if (count == 0) {
                return;
            }
            count--;
            int row = (first + count) % MOST_STEPS * WIDTH;
            System.arraycopy(rows, row, town.income, 0, HOUSES);
            int toldThen = rows[row + AT_RUMOUR_COUNT];
            for (int rumour = 0; rumour < town.rumourCount; rumour++) {
                town.keepers[rumour] = rows[row + AT_KEEPERS] >> rumour * HOUSES & ALL_HOUSES;
                town.purse[rumour] =
                    rumour < toldThen ? rows[row + AT_PURSES + rumour] : town.purseTold[rumour];
            }
            town.paid = rows[row + AT_PAID];
            town.day = rows[row + AT_DAY];
            town.x = rows[row + AT_X];
            town.written = rows[row + AT_WRITTEN];
            System.arraycopy(rows, row + AT_PAGES, town.pages, 0, MOST_WRITTEN);
        }
    }

    /** What was heard and said, and the guests. */
    private static final class Notes {
        final int[] heardHouse = new int[MOST_NOTES];
        final int[] heardDay = new int[MOST_NOTES];
        int heardCount;
        final int[] guests = new int[MOST_GUESTS];
        int guestCount;
        final int[] saidHouse = new int[MOST_NOTES];
        final int[] saidRumour = new int[MOST_NOTES];
        final int[] saidRent = new int[MOST_NOTES];
        int saidCount;

        void become(Notes other) {
            System.arraycopy(other.heardHouse, 0, heardHouse, 0, MOST_NOTES);
            System.arraycopy(other.heardDay, 0, heardDay, 0, MOST_NOTES);
            heardCount = other.heardCount;
            System.arraycopy(other.guests, 0, guests, 0, MOST_GUESTS);
            guestCount = other.guestCount;
            System.arraycopy(other.saidHouse, 0, saidHouse, 0, MOST_NOTES);
            System.arraycopy(other.saidRumour, 0, saidRumour, 0, MOST_NOTES);
            System.arraycopy(other.saidRent, 0, saidRent, 0, MOST_NOTES);
            saidCount = other.saidCount;
        }
    }

    /** A text that was read: its clauses, and its laws as steps of a machine with a stack. */
    private static final class Text {
        private static final int FIRST_SHIFT = 6;
        private static final int SECOND_SHIFT = 16;
        private static final int WORD_MASK = 63;
        private static final int FIRST_MASK = 1023;

        // A token makes one entry at most, so there can't be more of them than bytes.
        final int[] code = new int[MOST_BYTES];
        int used;
        final int[] clauses = new int[MOST_CLAUSES];
        int clauseCount;
        // Where the code of believes (0) and of rent (1) begins and ends; NONE without.
        final int[] lawFrom = new int[2];
        final int[] lawTo = new int[2];

        void clear() {
            used = 0;
            clauseCount = 0;
            for (int law = W_BELIEVES; law <= W_RENT; law++) {
                lawFrom[law] = NONE;
                lawTo[law] = NONE;
            }
        }

        boolean has(int law) {
            return lawFrom[law] != NONE;
        }

        void emit(int what, int operand) {
            if (used < MOST_BYTES) {
                code[used] = what + (operand << FIRST_SHIFT);
                used++;
            }
        }

        // How far a skip goes is known only behind what it skips.
        void landSkip(int place, int what) {
            if (place >= 0 && place < used) {
                code[place] = what + (used - place - 1 << FIRST_SHIFT);
            }
        }

        void addClause(int word, int first, int second) {
            if (clauseCount < MOST_CLAUSES) {
                clauses[clauseCount] = word + (first << FIRST_SHIFT) + (second << SECOND_SHIFT);
                clauseCount++;
            }
        }

        static int wordOf(int clause) {
            return clause & WORD_MASK;
        }

        static int firstOf(int clause) {
            return clause >> FIRST_SHIFT & FIRST_MASK;
        }

        static int secondOf(int clause) {
            return clause >> SECOND_SHIFT;
        }

        static int operandOf(int entry) {
            return entry >> FIRST_SHIFT;
        }
    }

    /** The tape, and the reading of it: token by token, till the end or the first fault. */
    private static final class Reader {
        final int[] tape = new int[MOST_BYTES];
        int length;
        int fault = NONE;
        int place = NONE;
        private int at;
        private int start;
        private int kind;
        private int number;
        private int law;
        private Text into;

        void take(int word) {
            for (int shift = 24; shift >= 0 && length < MOST_BYTES; shift -= 8) {
                tape[length] = word >> shift & 255;
                length++;
            }
        }

        boolean readInto(Text target) {
            into = target;
            into.clear();
            fault = 0;
            place = NONE;
            at = 0;
            next();
            for (int i = 0; i <= MOST_CLAUSES && fault == 0 && kind != FINISH; i++) {
                int word = kind;
                int wrong = faultOfClause(word);
                if (wrong != 0) {
                    fail(wrong);
                } else if (word <= W_RENT) {
                    readLaw(word);
                } else {
                    readDeed(word);
                }
            }
            length = 0;
            return fault == 0;
        }

        private void fail(int what) {
            if (fault == 0) {
                fault = what;
                place = start;
            }
        }

        private int faultOfClause(int word) {
            if (word > W_DAY) {
                return CANNOT_STAND;
            }
            if (word <= W_RENT && into.has(word)) {
                return SECOND_TIME;
            }
            return into.clauseCount >= MOST_CLAUSES ? TOO_MANY_CLAUSES : 0;
        }

        private void readLaw(int word) {
            law = word;
            into.addClause(word, 0, 0);
            into.lawFrom[word] = into.used;
            next();
            readSum(0);
            expect(S_STOP);
            into.lawTo[word] = into.used;
        }

        private void readDeed(int word) {
            next();
            int first = readNumber(LOWEST_FIRST[word], HIGHEST_FIRST[word]);
            int second = 0;
            if (word != W_DAY) {
                expect(WORD_BETWEEN[word]);
                second = readNumber(0, HIGHEST_SECOND[word]);
            }
            expect(S_STOP);
            into.addClause(word, first, second);
        }

        private void expect(int wanted) {
            if (fault == 0 && kind == wanted) {
                next();
            } else {
                fail(CANNOT_STAND);
            }
        }

        private int readNumber(int lowest, int highest) {
            int value = number;
            if (fault == 0 && kind == NUMBER && isWithin(value, lowest, highest)) {
                next();
                return value;
            }
            fail(kind == NUMBER ? WRONG_NUMBER : CANNOT_STAND);
            return 0;
        }

        private void readSum(int open) {
            readProduct(open);
            for (int i = 0; i < MOST_BYTES && fault == 0 && (kind == S_PLUS || kind == S_MINUS); i++) {
                int sign = kind;
                next();
                readProduct(open);
                into.emit(sign, 0);
            }
        }

        private void readProduct(int open) {
            readOne(open);
            for (int i = 0; i < MOST_BYTES && fault == 0 && (kind == S_TIMES || kind == S_OVER); i++) {
                int sign = kind;
                next();
                readOne(open);
                into.emit(sign, 0);
            }
        }

        private void readOne(int open) {
            if (fault != 0) {
                return;
            }
            if (kind == NUMBER) {
                into.emit(NUMBER, readNumber(0, LARGEST));
            } else if (kind >= W_DAY && kind <= W_INCOME) {
                readName();
            } else if (kind == S_OPEN || kind == S_MINUS || kind == W_MEAN || kind == W_KEPT || kind == W_IF) {
                readOpened(open + 1);
            } else {
                fail(CANNOT_STAND);
            }
        }

        private void readName() {
            boolean ofRentAlone = kind == W_ALL || kind == W_INCOME;
            if (law == W_BELIEVES && ofRentAlone || law == W_RENT && kind == W_FREE) {
                fail(WRONG_NAME);
                return;
            }
            into.emit(kind, 0);
            next();
        }

        private void readOpened(int open) {
            int opener = kind;
            if (open > MOST_OPEN) {
                fail(TOO_DEEP);
                return;
            }
            next();
            if (opener == S_OPEN) {
                readSum(open);
                expect(S_SHUT);
            } else if (opener == W_IF) {
                readChoice(open);
            } else {
                readOne(open);
                if (opener == W_MEAN) {
                    expect(W_OF);
                    readOne(open);
                }
                into.emit(opener == S_MINUS ? NEGATE : opener, 0);
            }
        }

        private void readChoice(int open) {
            readEither(open);
            expect(W_THEN);
            int toElse = into.used;
            into.emit(SKIP_UNLESS, 0);
            readSum(open);
            expect(W_ELSE);
            int toEnd = into.used;
            into.emit(SKIP, 0);
            into.landSkip(toElse, SKIP_UNLESS);
            readSum(open);
            expect(W_END);
            into.landSkip(toEnd, SKIP);
        }

        private void readEither(int open) {
            readBoth(open);
            for (int i = 0; i < MOST_BYTES && fault == 0 && kind == W_OR; i++) {
                next();
                readBoth(open);
                into.emit(W_OR, 0);
            }
        }

        private void readBoth(int open) {
            readAsk(open);
            for (int i = 0; i < MOST_BYTES && fault == 0 && kind == W_AND; i++) {
                next();
                readAsk(open);
                into.emit(W_AND, 0);
            }
        }

        private void readAsk(int open) {
            if (fault != 0) {
                return;
            }
            if (kind == W_NOT) {
                readNot(open + 1);
                return;
            }
            readSum(open);
            int sign = kind;
            if (sign >= S_LESS && sign <= S_UNLIKE || sign == S_AT_MOST || sign == S_AT_LEAST) {
                expect(sign);
                readSum(open);
                into.emit(sign, 0);
            } else {
                fail(CANNOT_STAND);
            }
        }

        private void readNot(int open) {
            if (open > MOST_OPEN) {
                fail(TOO_DEEP);
                return;
            }
            next();
            readAsk(open);
            into.emit(W_NOT, 0);
        }

        private void next() {
            while (at < length && (tape[at] == ' ' || tape[at] == '\n')) {
                at++;
            }
            start = at;
            if (at >= length) {
                kind = FINISH;
            } else if (isLetter(tape[at])) {
                nextWord();
            } else if (isDigit(tape[at])) {
                nextNumber();
            } else {
                nextSign();
            }
        }

        private void nextWord() {
            while (at < length && isLetter(tape[at])) {
                at++;
            }
            int size = at - start;
            kind = NO_TOKEN;
            for (int word = 0; word < WORD_COUNT && kind == NO_TOKEN; word++) {
                int alike = 0;
                while (alike < WORD_LENGTH
                    && WORDS.charAt(word * WORD_LENGTH + alike) == (alike < size ? tape[start + alike] : ' ')) {
                    alike++;
                }
                if (alike == WORD_LENGTH && size <= WORD_LENGTH) {
                    kind = word;
                }
            }
        }

        private void nextNumber() {
            kind = NUMBER;
            number = 0;
            while (at < length && isDigit(tape[at])) {
                // Past the largest number it is wrong however it goes on, and mustn't wrap around.
                number = Math.min(number * 10 + tape[at] - '0', LARGEST + 1);
                at++;
            }
        }

        private void nextSign() {
            int sign = SIGNS.indexOf((char) tape[at]);
            at++;
            kind = sign < 0 ? NO_TOKEN : S_LESS + sign;
            if ((kind == S_LESS || kind == S_MORE) && at < length && tape[at] == '=') {
                at++;
                kind = kind == S_LESS ? S_AT_MOST : S_AT_LEAST;
            }
        }

        private static boolean isLetter(int sign) {
            return sign >= 'a' && sign <= 'z' || sign >= 'A' && sign <= 'Z';
        }

        private static boolean isDigit(int sign) {
            return sign >= '0' && sign <= '9';
        }
    }

    /** What the laws say of a house and a rumour. */
    private static final class Judge {
        // Eight levels, of which each leaves five values at most to wait for others, stay below this.
        private static final int MOST_WAITING = 64;

        private final int[] stack = new int[MOST_WAITING];
        private int top;

        int belief(Text law, Town town, int house, int rumour) {
            if (law == null || !law.has(W_BELIEVES)) {
                return 1;
            }
            int value = valueOf(law, W_BELIEVES, town, house, rumour);
            return Math.max(-HIGHEST_LAW, Math.min(value, HIGHEST_LAW));
        }

        int charge(Text law, Town town, int house, int rumour) {
            if (law == null || !law.has(W_RENT)) {
                return Integer.bitCount(town.keepers[rumour]) * (1 + town.truth[rumour]);
            }
            int value = valueOf(law, W_RENT, town, house, rumour);
            return Math.max(0, Math.min(value, HIGHEST_LAW));
        }

        private int valueOf(Text law, int which, Town town, int house, int rumour) {
            top = 0;
            int to = law.lawTo[which];
            for (int at = law.lawFrom[which]; at >= 0 && at < to; at++) {
                int what = Text.wordOf(law.code[at]);
                int operand = Text.operandOf(law.code[at]);
                if (what == NUMBER) {
                    push(operand);
                } else if (what <= W_INCOME) {
                    push(valueOfName(what, town, house, rumour));
                } else if (what == SKIP) {
                    at += operand;
                } else if (what == SKIP_UNLESS) {
                    at += pop() == 0 ? operand : 0;
                } else if (what == NEGATE) {
                    push(-pop());
                } else if (what == W_NOT) {
                    push(1 - pop());
                } else if (what == W_KEPT) {
                    int asked = pop();
                    push(isHouse(asked) ? Integer.bitCount(town.rumoursAt(asked)) : 0);
                } else {
                    int right = pop();
                    int left = pop();
                    push(cut(combined(what, left, right)));
                }
            }
            return pop();
        }

        private void push(int value) {
            if (top < MOST_WAITING) {
                stack[top] = value;
                top++;
            }
        }

        private int pop() {
            if (top == 0) {
                return 0;
            }
            top--;
            return stack[top];
        }

        private static int valueOfName(int name, Town town, int house, int rumour) {
            switch (name) {
                case W_DAY:
                    return town.day;
                case W_HOUSE:
                    return house;
                case W_NUMBER:
                    return rumour;
                case W_TRUTH:
                    return town.truth[rumour];
                case W_PURSE:
                    return town.purse[rumour];
                case W_NEAR:
                    return Integer.bitCount(town.beside[house] & town.keepers[rumour]);
                case W_FREE:
                    return town.rooms[house] - Integer.bitCount(town.rumoursAt(house));
                case W_ALL:
                    return Integer.bitCount(town.keepers[rumour]);
                case W_INCOME:
                    return town.income[house];
                default:
                    return 0;
            }
        }

        private static long combined(int what, long left, long right) {
            switch (what) {
                case S_PLUS:
                    return left + right;
                case S_MINUS:
                    return left - right;
                case S_TIMES:
                    return left * right;
                case S_OVER:
                    return right == 0 ? 0 : left / right;
                case W_MEAN:
                    return (left + right) / 2;
                case S_LESS:
                    return left < right ? 1 : 0;
                case S_AT_MOST:
                    return left <= right ? 1 : 0;
                case S_MORE:
                    return left > right ? 1 : 0;
                case S_AT_LEAST:
                    return left >= right ? 1 : 0;
                case S_SAME:
                    return left == right ? 1 : 0;
                case S_UNLIKE:
                    return left != right ? 1 : 0;
                case W_AND:
                    return left & right;
                case W_OR:
                    return left | right;
                default:
                    return 0;
            }
        }

        private static int cut(long value) {
            return (int) Math.max(-FARTHEST_VALUE, Math.min(value, FARTHEST_VALUE));
        }
    }

    /** What is done in a town under a law: in this one, or in the one that is foretold. */
    private static final class Custom {
        private final Judge judge;

        Custom(Judge judge) {
            this.judge = judge;
        }

        boolean canHear(Town town, Text law, int house, int rumour) {
            return !town.keeps(house, rumour)
                && Integer.bitCount(town.rumoursAt(house)) < town.rooms[house]
                && judge.belief(law, town, house, rumour) > 0;
        }

        void passDay(Town town, Text law) {
            town.paid = 0;
            for (int rumour = 0; rumour < town.rumourCount; rumour++) {
                for (int house = 0; house < HOUSES; house++) {
                    if (town.keeps(house, rumour)) {
                        payRent(town, law, house, rumour);
                    }
                }
            }
            int hearers = 0;
            int spoken = 0;
            if (town.rumourCount > 0) {
                int teller = town.drawX() % HOUSES;
                spoken = town.drawX() % town.rumourCount;
                hearers = town.keeps(teller, spoken) ? town.beside[teller] : 0;
            }
            for (int house = 0; house < HOUSES; house++) {
                if ((hearers >> house & 1) == 1 && canHear(town, law, house, spoken)) {
                    town.keep(house, spoken);
                }
            }
            town.day++;
        }

        private void payRent(Town town, Text law, int house, int rumour) {
            int sum = Math.min(judge.charge(law, town, house, rumour), town.purse[rumour]);
            town.purse[rumour] -= sum;
            town.income[house] = Math.min(town.income[house] + sum, LARGEST);
            town.paid += sum;
        }

        void turn(Town town, Text law) {
            int drawn = town.drawX();
            int deed = drawn % 6;
            if (deed >= 4) {
                if (town.day < LARGEST) {
                    passDay(town, law);
                }
                return;
            }
            if (town.rumourCount == 0) {
                return;
            }
            int rumour = drawn % town.rumourCount;
            int house = drawn / 6 % HOUSES;
            int sum = 1 + drawn / 6 % 9;
            if (deed <= 1 && canHear(town, law, house, rumour)) {
                town.keep(house, rumour);
            } else if (deed == 2) {
                town.forget(house, rumour);
            } else if (deed == 3 && town.purse[rumour] + sum <= LARGEST) {
                town.purse[rumour] += sum;
            }
        }
    }

    /** The map: what the roads alone decide. */
    private static final class Streets {
        private static final int SETS = 256;
        private static final int LESS_ONE = HOUSES - 1;

        private final Town town;
        private final int[] far = new int[HOUSES * HOUSES];
        private final int[] inside = new int[SETS];
        private final int[] ways = new int[SETS];
        private final int[] matrix = new int[LESS_ONE * LESS_ONE];
        private final int[] walk = new int[HOUSES];
        private int found;
        final int[] firstRound = new int[HOUSES];
        final int[] tints = new int[HOUSES];

        Streets(Town town) {
            this.town = town;
        }

        private boolean joins(int a, int b) {
            return (town.beside[a] >> b & 1) == 1;
        }

        private int besideAny(int set) {
            int result = 0;
            for (int house = 0; house < HOUSES; house++) {
                if ((set >> house & 1) == 1) {
                    result |= town.beside[house];
                }
            }
            return result;
        }

        int flood(int from, int open) {
            int seen = 1 << from;
            for (int i = 1; i < HOUSES; i++) {
                seen |= besideAny(seen) & open;
            }
            return seen;
        }

        boolean isWhole() {
            return flood(0, ALL_HOUSES) == ALL_HOUSES;
        }

        void measure() {
            for (int from = 0; from < HOUSES; from++) {
                int seen = 0;
                int layer = 1 << from;
                for (int house = 0; house < HOUSES; house++) {
                    far[from * HOUSES + house] = NONE;
                }
                for (int distance = 0; distance < HOUSES && layer != 0; distance++) {
                    for (int house = 0; house < HOUSES; house++) {
                        if ((layer >> house & 1) == 1) {
                            far[from * HOUSES + house] = distance;
                        }
                    }
                    seen |= layer;
                    layer = besideAny(layer) & ~seen;
                }
            }
        }

        int distance(int a, int b) {
            return far[a * HOUSES + b];
        }

        int onTheWay(int a, int b, int i) {
            int here = a;
            for (int done = 0; done < i; done++) {
                here = lowestNearer(here, b);
            }
            return here;
        }

        private int lowestNearer(int here, int goal) {
            for (int house = 0; house < HOUSES; house++) {
                if (joins(here, house) && distance(house, goal) == distance(here, goal) - 1) {
                    return house;
                }
            }
            return here;
        }

        int farthestFrom(int house) {
            int farthest = 0;
            for (int other = 0; other < HOUSES; other++) {
                farthest = Math.max(farthest, distance(house, other));
            }
            return farthest;
        }

        int countThrees() {
            int count = 0;
            for (int a = 0; a < HOUSES; a++) {
                for (int b = a + 1; b < HOUSES; b++) {
                    if (joins(a, b)) {
                        int both = town.beside[a] & town.beside[b];
                        count += Integer.bitCount(both >> b + 1);
                    }
                }
            }
            return count;
        }

        // Kirchhoff's determinant, without fractions. Its leading minors are never below 0,
        // and one that is 0 makes all of it 0, so no rows need be changed about.
        int countTrees() {
            fillMatrix();
            int before = 1;
            for (int k = 0; k < LESS_ONE; k++) {
                int pivot = matrix[k * LESS_ONE + k];
                if (pivot == 0 || before == 0) {
                    return 0;
                }
                for (int i = k + 1; i < LESS_ONE; i++) {
                    for (int j = k + 1; j < LESS_ONE; j++) {
                        int ahead = matrix[i * LESS_ONE + k] * matrix[k * LESS_ONE + j];
                        matrix[i * LESS_ONE + j] = (matrix[i * LESS_ONE + j] * pivot - ahead) / before;
                    }
                }
                before = pivot;
            }
            return before;
        }

        private void fillMatrix() {
            for (int a = 0; a < LESS_ONE; a++) {
                for (int b = 0; b < LESS_ONE; b++) {
                    matrix[a * LESS_ONE + b] = joins(a, b) ? -1 : 0;
                }
                matrix[a * LESS_ONE + a] = Integer.bitCount(town.beside[a]);
            }
        }

        private void countInside() {
            inside[0] = 0;
            for (int set = 1; set < SETS; set++) {
                int lowest = lowestIn(set);
                int rest = set & set - 1;
                inside[set] = inside[rest] + Integer.bitCount(town.beside[lowest] & rest);
            }
        }

        // Houses of one colour are a set without a road inside; two colours part a set
        // into two such ones, four part all houses into two sets of two colours.
        long countColours(int n) {
            countInside();
            for (int set = 0; set < SETS; set++) {
                ways[set] = countTwoColours(set);
            }
            if (n <= 2) {
                return n == 1 ? oneColour(ALL_HOUSES) : ways[ALL_HOUSES];
            }
            long count = 0;
            for (int set = 0; set < SETS; set++) {
                int others = ALL_HOUSES - set;
                count += (long) ways[set] * (n == 3 ? oneColour(others) : ways[others]);
            }
            return count;
        }

        private int oneColour(int set) {
            return inside[set] == 0 ? 1 : 0;
        }

        private int countTwoColours(int set) {
            int count = oneColour(set);
            for (int part = set; part > 0; part = part - 1 & set) {
                count += oneColour(part) * oneColour(set - part);
            }
            return count;
        }

        boolean findColours(int n) {
            return tintFrom(0, n);
        }

        private boolean tintFrom(int house, int n) {
            if (house >= HOUSES) {
                return true;
            }
            for (int tint = 0; tint < n; tint++) {
                tints[house] = tint;
                if (differsFromLower(house) && tintFrom(house + 1, n)) {
                    return true;
                }
            }
            return false;
        }

        private boolean differsFromLower(int house) {
            for (int other = 0; other < house; other++) {
                if (joins(house, other) && tints[house] == tints[other]) {
                    return false;
                }
            }
            return true;
        }

        int countRounds() {
            found = 0;
            walkOn(0, 0, ALL_HOUSES);
            return found;
        }

        private void walkOn(int depth, int seen, int next) {
            if (depth >= HOUSES) {
                found++;
                if (found == 1) {
                    System.arraycopy(walk, 0, firstRound, 0, HOUSES);
                }
                return;
            }
            for (int house = 0; house < HOUSES; house++) {
                if (((next & ~seen) >> house & 1) == 1) {
                    walk[depth] = house;
                    walkOn(depth + 1, seen | 1 << house, town.beside[house]);
                }
            }
        }

        int setBetween(int a, int b) {
            int ends = 1 << a | 1 << b;
            int best = ALL_HOUSES & ~ends;
            for (int set = 0; set < SETS; set++) {
                boolean isFewer = Integer.bitCount(set) < Integer.bitCount(best);
                if (isFewer && (set & ends) == 0 && (flood(a, ALL_HOUSES & ~set) >> b & 1) == 0) {
                    best = set;
                }
            }
            return best;
        }

        int setWithin(int n) {
            int best = ALL_HOUSES;
            for (int set = 1; set < SETS; set++) {
                if (Integer.bitCount(set) < Integer.bitCount(best) && isNearAll(set, n)) {
                    best = set;
                }
            }
            return best;
        }

        private boolean isNearAll(int set, int n) {
            int covered = 0;
            for (int house = 0; house < HOUSES; house++) {
                for (int other = 0; other < HOUSES && (set >> house & 1) == 1; other++) {
                    int distance = distance(house, other);
                    if (distance != NONE && distance <= n) {
                        covered |= 1 << other;
                    }
                }
            }
            return covered == ALL_HOUSES;
        }

        // Of all ways in which roads are open or shut: each makes one set of houses the part
        // that a is in, so the ways are counted by these sets, and roads outside are free.
        int waysOpen(int a, int b) {
            countInside();
            int count = 0;
            for (int set = 0; set < SETS; set++) {
                if ((set >> a & 1) == 1) {
                    ways[set] = countJoined(set, 1 << a);
                    if ((set >> b & 1) == 1) {
                        count += ways[set] << inside[ALL_HOUSES - set];
                    }
                }
            }
            return count;
        }

        private int countJoined(int set, int start) {
            int count = 1 << inside[set];
            int others = set - start;
            // Each set that leaves some of the others out is a smaller part around the start.
            for (int left = others; left > 0; left = left - 1 & others) {
                count -= ways[set - left] << inside[left];
            }
            return count;
        }
    }

    /** Who began it, by when it was heard. */
    private static final class Inquiry {
        // No hearing can come to this day.
        private static final int NEVER = 1000;

        private final Streets streets;
        private final Notes notes;
        final int[] start = new int[HOUSES];
        private final int[] error = new int[HOUSES];
        private final int[] hearing = new int[HOUSES];

        Inquiry(Streets streets, Notes notes) {
            this.streets = streets;
            this.notes = notes;
        }

        void weigh() {
            streets.measure();
            for (int house = 0; house < HOUSES; house++) {
                weighOne(house);
            }
        }

        // The best day lies halfway between the earliest and the latest start that
        // what was heard speaks for; of two halfways it is the lower one.
        private void weighOne(int house) {
            int earliest = NEVER;
            int latest = -NEVER;
            start[house] = NO_VALUE;
            error[house] = NONE;
            for (int i = 0; i < notes.heardCount; i++) {
                int distance = streets.distance(house, notes.heardHouse[i]);
                if (distance == NONE) {
                    return;
                }
                earliest = Math.min(earliest, notes.heardDay[i] - distance);
                latest = Math.max(latest, notes.heardDay[i] - distance);
            }
            if (notes.heardCount == 0) {
                error[house] = 0;
                return;
            }
            error[house] = (latest - earliest + 1) / 2;
            start[house] = latest - error[house];
        }

        int suspects(int err) {
            int bits = 0;
            for (int house = 0; house < HOUSES; house++) {
                if (error[house] != NONE && error[house] <= err) {
                    bits |= 1 << house;
                }
            }
            return bits;
        }

        int bestWitness(int suspects) {
            if (Integer.bitCount(suspects) < 2) {
                return NONE;
            }
            int best = NONE;
            int fewest = HOUSES + 1;
            for (int witness = 0; witness < HOUSES; witness++) {
                int alike = mostAlike(witness, suspects);
                if (alike < fewest) {
                    fewest = alike;
                    best = witness;
                }
            }
            return best;
        }

        private int mostAlike(int witness, int suspects) {
            for (int suspect = 0; suspect < HOUSES; suspect++) {
                int distance = streets.distance(suspect, witness);
                hearing[suspect] = distance == NONE ? NEVER : start[suspect] + distance;
            }
            int most = 0;
            for (int suspect = 0; suspect < HOUSES; suspect++) {
                if ((suspects >> suspect & 1) == 1) {
                    most = Math.max(most, countHearing(hearing[suspect], suspects));
                }
            }
            return most;
        }

        private int countHearing(int day, int suspects) {
            int count = 0;
            for (int suspect = 0; suspect < HOUSES; suspect++) {
                if ((suspects >> suspect & 1) == 1 && hearing[suspect] == day) {
                    count++;
                }
            }
            return count;
        }
    }

    /** Guests packed into rooms. */
    private static final class Lodging {
        private static final int GROUPS = 128;
        // More houses than there are: no way.
        private static final int TOO_MANY = 100;

        private final Town town;
        private final Notes notes;
        private final int[] left = new int[HOUSES];
        private final int[] size = new int[GROUPS];
        private final int[] fewest = new int[GROUPS];
        private int taken;
        final int[] place = new int[MOST_GUESTS];

        Lodging(Town town, Notes notes) {
            this.town = town;
            this.notes = notes;
        }

        int fewestHouses() {
            System.arraycopy(town.rooms, 0, left, 0, HOUSES);
            taken = 0;
            size[0] = 0;
            for (int group = 1; group < 1 << notes.guestCount; group++) {
                int lowest = lowestIn(group);
                size[group] = size[group & group - 1] + notes.guests[lowest];
            }
            return fewestFor((1 << notes.guestCount) - 1);
        }

        // Houses in all, those that are taken too, if these guests go where room is left.
        private int fewestFor(int guests) {
            for (int group = guests; group > 0; group = group - 1 & guests) {
                fewest[group] = TOO_MANY;
            }
            fewest[0] = 0;
            for (int house = 0; house < HOUSES; house++) {
                // A group needs only groups below it as they were ahead of this house: so downwards.
                for (int group = guests; group > 0; group = group - 1 & guests) {
                    fewest[group] = fewestWith(house, group);
                }
            }
            return Integer.bitCount(taken) + fewest[guests];
        }

        private int fewestWith(int house, int group) {
            int best = fewest[group];
            int price = (taken >> house & 1) == 1 ? 0 : 1;
            for (int part = group; part > 0; part = part - 1 & group) {
                if (size[part] <= left[house]) {
                    best = Math.min(best, price + fewest[group - part]);
                }
            }
            return best;
        }

        void placeGuests(int houses) {
            int waiting = (1 << notes.guestCount) - 1;
            for (int guest = 0; guest < notes.guestCount; guest++) {
                waiting &= ~(1 << guest);
                place[guest] = lowestFor(guest, waiting, houses);
            }
        }

        private int lowestFor(int guest, int waiting, int houses) {
            for (int house = 0; house < HOUSES; house++) {
                int takenBefore = taken;
                if (notes.guests[guest] <= left[house]) {
                    left[house] -= notes.guests[guest];
                    taken |= 1 << house;
                    if (fewestFor(waiting) <= houses) {
                        return house;
                    }
                    left[house] += notes.guests[guest];
                    taken = takenBefore;
                }
            }
            return NONE;
        }
    }
}
